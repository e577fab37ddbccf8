set_option maxRecDepth 20000 in
theorem h_X11_potentialBehind_X11 : ∀ w ∈ wsX110, w ∈ wsX11_potentialBehind := by decide +kernel
set_option maxRecDepth 20000 in
theorem k_X11_potentialBehind_26 : ZF wsX11_potentialBehind RX11 26 11 2 RX11 TX11 15 := ⟨rfl, by decide, h_X11_potentialBehind_X11, by decide +kernel⟩
set_option maxRecDepth 20000 in
theorem k_X11_potentialBehind_67 : ZF wsX11_potentialBehind RX11 67 11 8 RX11 TX11 15 := ⟨rfl, by decide, h_X11_potentialBehind_X11, by decide +kernel⟩
set_option maxRecDepth 20000 in
theorem h_X11_potentialBehind_X10 : ∀ w ∈ wsX100, w ∈ wsX11_potentialBehind := by decide +kernel
set_option maxRecDepth 20000 in
theorem k_X11_potentialBehind_121 : ZF wsX11_potentialBehind RX11 121 10 0 RX10 TX10 5 := ⟨rfl, by decide, h_X11_potentialBehind_X10, by decide +kernel⟩
set_option maxRecDepth 20000 in
theorem h_X11_potentialBehind_X9 : ∀ w ∈ wsX90, w ∈ wsX11_potentialBehind := by decide +kernel
set_option maxRecDepth 20000 in
theorem k_X11_potentialBehind_127 : ZF wsX11_potentialBehind RX11 127 9 0 RX9 TX9 7 := ⟨rfl, by decide, h_X11_potentialBehind_X9, by decide +kernel⟩
set_option maxRecDepth 20000 in
theorem k_X11_potentialBehind_143 : ZF wsX11_potentialBehind RX11 143 9 2 RX9 TX9 7 := ⟨rfl, by decide, h_X11_potentialBehind_X9, by decide +kernel⟩
set_option maxRecDepth 20000 in
theorem k_X11_potentialBehind_160 : ZF wsX11_potentialBehind RX11 160 9 1 RX9 TX9 7 := ⟨rfl, by decide, h_X11_potentialBehind_X9, by decide +kernel⟩
set_option maxRecDepth 20000 in
theorem h_X11_potentialBehind_X8 : ∀ w ∈ wsX80, w ∈ wsX11_potentialBehind := by decide +kernel
set_option maxRecDepth 20000 in
theorem k_X11_potentialBehind_163 : ZF wsX11_potentialBehind RX11 163 8 0 RX8 TX8 7 := ⟨rfl, by decide, h_X11_potentialBehind_X8, by decide +kernel⟩
set_option maxRecDepth 20000 in
theorem k_X11_potentialBehind_185 : ZF wsX11_potentialBehind RX11 185 10 1 RX10 TX10 5 := ⟨rfl, by decide, h_X11_potentialBehind_X10, by decide +kernel⟩
set_option maxRecDepth 20000 in
theorem k_X11_potentialBehind_188 : ZF wsX11_potentialBehind RX11 188 10 2 RX10 TX10 5 := ⟨rfl, by decide, h_X11_potentialBehind_X10, by decide +kernel⟩
set_option maxRecDepth 20000 in
theorem h_X11_potentialBehind_X5 : ∀ w ∈ wsX50, w ∈ wsX11_potentialBehind := by decide +kernel
set_option maxRecDepth 20000 in
theorem k_X11_potentialBehind_335 : ZF wsX11_potentialBehind RX11 335 5 9 RX5 TX5 10 := ⟨rfl, by decide, h_X11_potentialBehind_X5, by decide +kernel⟩
set_option maxHeartbeats 8000000 in
set_option maxRecDepth 100000 in
theorem c_X11_potentialBehind (l : Launch) (D : va_G) (cA : Nat → ClassId) (g : Nat → Nat) (sz : Nat) (h_t : Nat) (a_t : Nat → Nat) (o_t : Ob) (a_t_state : Nat → Nat) (o_t_state : Ob) (a_t_state_wares : Nat → Nat) (o_t_state_wares : Ob) (a_t_state_shelf : Nat → Nat) (o_t_state_shelf : Ob) (a_t_state_log : Nat → Nat) (o_t_state_log : Ob) (a_t_planner : Nat → Nat) (o_t_planner : Ob) (v1 : Int32) (rv : Int32) (hF : f_X11_potentialBehind o_t_state_wares o_t_state_shelf o_t_state_log o_t_planner v1 = some rv) : Met l yX11_potentialBehind wsX11_potentialBehind ({ frames := 1, cells := 0, slots := 0, locals := 22 }) (va_Pc [.ref h_t, .int v1] (PreW D cA g sz (w_X11_leastPaid cA h_t a_t o_t a_t_state o_t_state a_t_state_wares o_t_state_wares a_t_state_shelf o_t_state_shelf a_t_state_log o_t_state_log a_t_planner o_t_planner))) (va_Qi (fun (r : Int32) (_ : Unit) => r = rv) (PostW D cA sz (w_X11_leastPaid cA h_t a_t o_t a_t_state o_t_state a_t_state_wares o_t_state_wares a_t_state_shelf o_t_state_shelf a_t_state_log o_t_state_log a_t_planner o_t_planner) (w_X11_leastPaid cA h_t a_t o_t a_t_state o_t_state a_t_state_wares o_t_state_wares a_t_state_shelf o_t_state_shelf a_t_state_log o_t_state_log a_t_planner o_t_planner)) (va_A (w_X11_leastPaid cA h_t a_t o_t a_t_state o_t_state a_t_state_wares o_t_state_wares a_t_state_shelf o_t_state_shelf a_t_state_log o_t_state_log a_t_planner o_t_planner) sz)) 0 0 (va_A (w_X11_leastPaid cA h_t a_t o_t a_t_state o_t_state a_t_state_wares o_t_state_wares a_t_state_shelf o_t_state_shelf a_t_state_log o_t_state_log a_t_planner o_t_planner) sz) := by
  refine z_start (cc := cX11_potentialBehind) (maxL := 6) (ret := (some .int)) (lv0 := [(0, .ref h_t), (1, .int v1)]) (Qc := fun sz => va_Qi (fun (r : Int32) (_ : Unit) => r = rv) (PostW D cA sz (w_X11_leastPaid cA h_t a_t o_t a_t_state o_t_state a_t_state_wares o_t_state_wares a_t_state_shelf o_t_state_shelf a_t_state_log o_t_state_log a_t_planner o_t_planner) (w_X11_leastPaid cA h_t a_t o_t a_t_state o_t_state a_t_state_wares o_t_state_wares a_t_state_shelf o_t_state_shelf a_t_state_log o_t_state_log a_t_planner o_t_planner)) (va_A (w_X11_leastPaid cA h_t a_t o_t a_t_state o_t_state a_t_state_wares o_t_state_wares a_t_state_shelf o_t_state_shelf a_t_state_log o_t_state_log a_t_planner o_t_planner) sz)) (free := fun sz => va_A (w_X11_leastPaid cA h_t a_t o_t a_t_state o_t_state a_t_state_wares o_t_state_wares a_t_state_shelf o_t_state_shelf a_t_state_log o_t_state_log a_t_planner o_t_planner) sz) (by decide +kernel) rfl rfl (Nat.le_of_ble_eq_true rfl) ?_
  intro p e R s m args below meth c A Q hR hA hQ X hr hin
  unfold f_X11_potentialBehind at hF
  refine z_iconst (v := (0 : Int32)) X dX11_potentialBehind_0 (by decide) ?_
  refine z_istore_n (lv' := [(2, .int (0 : Int32)), (0, .ref h_t), (1, .int v1)]) X dX11_potentialBehind_1 rfl (by decide) rfl ?_
  refine z_iconst (v := (0 : Int32)) X dX11_potentialBehind_2 (by decide) ?_
  refine z_istore_n (lv' := [(3, .int (0 : Int32)), (2, .int (0 : Int32)), (0, .ref h_t), (1, .int v1)]) X dX11_potentialBehind_3 rfl (by decide) rfl ?_
  refine z_iconst (v := (0 : Int32)) X dX11_potentialBehind_4 (by decide) ?_
  refine z_istore (lv' := [(4, .int (0 : Int32)), (3, .int (0 : Int32)), (2, .int (0 : Int32)), (0, .ref h_t), (1, .int v1)]) X dX11_potentialBehind_5 (by decide) rfl ?_
  obtain ⟨k37, k38, hL, hF⟩ := zb2_e hF
  have L39_x : ∀ (k37' : Int32) (k38' : Int32), (k37', k38') = (k37, k38) → ZW p l e R s m args below meth c D A 6 0 0 Q (w_X11_leastPaid cA h_t a_t o_t a_t_state o_t_state a_t_state_wares o_t_state_wares a_t_state_shelf o_t_state_shelf a_t_state_log o_t_state_log a_t_planner o_t_planner) [(0, .ref h_t), (2, .int k37'), (3, .int k38')] 102 [] := by
    intro k37' k38' hz
    cases hz
    refine z_aload_n X dX11_potentialBehind_102 rfl 0 rfl ?_
    refine z_get (v := .ref (a_t 2)) X k_X11_potentialBehind_26 0 rfl rfl dX11_potentialBehind_103 ?_
    refine z_get (v := .ref (a_t_state 1)) X k_X11_potentialBehind_160 2 rfl rfl dX11_potentialBehind_106 ?_
    refine z_get (v := .int (o_t_state_shelf 0 0)) X k_X11_potentialBehind_163 9 rfl rfl dX11_potentialBehind_109 ?_
    refine z_iconst (v := (1 : Int32)) X dX11_potentialBehind_112 (by decide) ?_
    refine z_isub X dX11_potentialBehind_113 ?_
    refine z_iload_n X dX11_potentialBehind_114 rfl 1 rfl ?_
    refine z_imul X dX11_potentialBehind_115 ?_
    refine z_aload_n X dX11_potentialBehind_116 rfl 0 rfl ?_
    refine z_get (v := .ref (a_t 2)) X k_X11_potentialBehind_26 0 rfl rfl dX11_potentialBehind_117 ?_
    refine z_get (v := .ref (a_t_state 1)) X k_X11_potentialBehind_160 2 rfl rfl dX11_potentialBehind_120 ?_
    refine z_get (v := .int (o_t_state_shelf 0 0)) X k_X11_potentialBehind_163 9 rfl rfl dX11_potentialBehind_123 ?_
    refine z_iload_n X dX11_potentialBehind_126 rfl 2 rfl ?_
    refine z_imul X dX11_potentialBehind_127 ?_
    refine z_iadd X dX11_potentialBehind_128 ?_
    cases hF
    exact z_iret X hA hQ hr rfl dX11_potentialBehind_129 (Nat.le_refl _) (Nat.le_refl _)
  obtain ⟨B53, hBB53, hL⟩ := zl3_b hL
  have L39 : ∀ (n : Nat) (k34 : Int32) (k35 : Int32) (k36 : Int32), zl3 B53 n k34 k35 k36 = some (k37, k38) → ZW p l e R s m args below meth c D A 6 0 0 Q (w_X11_leastPaid cA h_t a_t o_t a_t_state o_t_state a_t_state_wares o_t_state_wares a_t_state_shelf o_t_state_shelf a_t_state_log o_t_state_log a_t_planner o_t_planner) [(0, .ref h_t), (1, .int v1), (2, .int k34), (3, .int k35), (4, .int k36)] 7 [] := by
    intro n
    induction n with
    | zero => intro k34 k35 k36 hL; cases hL
    | succ n ih =>
      intro k34 k35 k36 hL
      obtain ⟨zz40, hF, hL⟩ := zl3_e hL
      rw [hBB53] at hF
      refine z_iload X dX11_potentialBehind_7 4 rfl ?_
      refine z_aload_n X dX11_potentialBehind_9 rfl 0 rfl ?_
      refine z_get (v := .ref (a_t 2)) X k_X11_potentialBehind_26 0 rfl rfl dX11_potentialBehind_10 ?_
      refine z_get (v := .ref (a_t_state 0)) X k_X11_potentialBehind_127 2 rfl rfl dX11_potentialBehind_13 ?_
      refine z_get (v := .int (o_t_state_wares 0 0)) X k_X11_potentialBehind_121 4 rfl rfl dX11_potentialBehind_16 ?_
      have hF := if_e hF
      refine z_icmp_ge (tgt := 102) X dX11_potentialBehind_19 (by decide) (fun c52 => ?_) (fun c52 => ?_)
      · have hF := hF.1 c52
        cases hF
        have hL := Option.some.inj hL
        refine z_lv (lv' := [(0, .ref h_t), (2, .int k34), (3, .int k35)]) [0, 2, 3] rfl ?_
        exact L39_x k34 k35 hL
      · have hF := hF.2 c52
        refine z_aload_n X dX11_potentialBehind_22 rfl 0 rfl ?_
        refine z_get (v := .ref (a_t 2)) X k_X11_potentialBehind_26 0 rfl rfl dX11_potentialBehind_23 ?_
        refine z_get (v := .ref (a_t_state 2)) X k_X11_potentialBehind_143 2 rfl rfl dX11_potentialBehind_26 ?_
        refine z_iload_n X dX11_potentialBehind_29 rfl 1 rfl ?_
        refine z_iload X dX11_potentialBehind_30 4 rfl ?_
        obtain ⟨r41, hc42, hF⟩ := zb1_e hF
        refine z_Vi (As := [.int v1, .int k36]) (rest := []) (wc := (w_X4_has cA (a_t_state 2) a_t_state_log o_t_state_log)) (wc' := (w_X4_has cA (a_t_state 2) a_t_state_log o_t_state_log)) (ws' := (w_X11_leastPaid cA h_t a_t o_t a_t_state o_t_state a_t_state_wares o_t_state_wares a_t_state_shelf o_t_state_shelf a_t_state_log o_t_state_log a_t_planner o_t_planner)) (rv := r41) X (cwV 2 X.2.2.2.2.1 gX11_potentialBehind_X4_densityBehind rfl rfl rfl (by decide +kernel) (by rw [hR]; exact ⟨Nat.le_of_ble_eq_true rfl, Nat.le_of_ble_eq_true rfl⟩)) (fun sz => c_X4_densityBehind l D cA g sz (a_t_state 2) a_t_state_log o_t_state_log v1 k36 r41 hc42) [13, 14, 15, 16, 17] [0, 1, 2, 3, 4, 5, 6, 7, 8, 9, 10, 11, 12, 1000, 1001, 1002, 1003, 1004, 18, 19, 20, 21, 22, 23] rfl (by decide) rfl (by decide) rfl rfl rfl rfl rfl rfl (Nat.le_of_ble_eq_true rfl) dX11_potentialBehind_32 ⟨Nat.zero_le _, Nat.zero_le _⟩ ?_
        refine z_aload_n X dX11_potentialBehind_35 rfl 0 rfl ?_
        refine z_get (v := .ref (a_t 2)) X k_X11_potentialBehind_26 0 rfl rfl dX11_potentialBehind_36 ?_
        refine z_get (v := .ref (a_t_state 0)) X k_X11_potentialBehind_127 2 rfl rfl dX11_potentialBehind_39 ?_
        refine z_get (v := .ref (a_t_state_wares 1)) X k_X11_potentialBehind_185 4 rfl rfl dX11_potentialBehind_42 ?_
        refine z_iload X dX11_potentialBehind_45 4 rfl ?_
        obtain ⟨g43, hF⟩ := gi_e hF
        refine z_iald X 5 rfl g43 dX11_potentialBehind_47 ?_
        refine z_imul X dX11_potentialBehind_48 ?_
        obtain ⟨x44, ex44, hF⟩ := nx_e hF
        refine z_nm ex44 ?_
        refine z_istore (lv' := [(5, .int x44), (0, .ref h_t), (1, .int v1), (2, .int k34), (3, .int k35), (4, .int k36)]) X dX11_potentialBehind_49 (by decide) rfl ?_
        refine z_iload_n X dX11_potentialBehind_51 rfl 3 rfl ?_
        refine z_iload X dX11_potentialBehind_52 0 rfl ?_
        refine z_iadd X dX11_potentialBehind_54 ?_
        obtain ⟨x45, ex45, hF⟩ := nx_e hF
        refine z_nm ex45 ?_
        refine z_istore_n (lv' := [(2, .int x45), (5, .int x44), (0, .ref h_t), (1, .int v1), (3, .int k35), (4, .int k36)]) X dX11_potentialBehind_55 rfl (by decide) rfl ?_
        refine z_aload_n X dX11_potentialBehind_56 rfl 2 rfl ?_
        refine z_get (v := .ref (a_t 8)) X k_X11_potentialBehind_67 0 rfl rfl dX11_potentialBehind_57 ?_
        refine z_get (v := .ref (a_t_planner 9)) X k_X11_potentialBehind_335 18 rfl rfl dX11_potentialBehind_60 ?_
        refine z_iload_n X dX11_potentialBehind_63 rfl 3 rfl ?_
        obtain ⟨g46, hF⟩ := gi_e hF
        refine z_iald X 23 rfl g46 dX11_potentialBehind_64 ?_
        refine z_iload X dX11_potentialBehind_65 5 rfl ?_
        refine z_ishr X dX11_potentialBehind_67 ?_
        refine z_iconst (v := (1 : Int32)) X dX11_potentialBehind_68 (by decide) ?_
        refine z_iand X dX11_potentialBehind_69 ?_
        refine z_iconst (v := (1 : Int32)) X dX11_potentialBehind_70 (by decide) ?_
        have hF := if_e hF
        refine z_icmp_ne (tgt := 96) X dX11_potentialBehind_71 (by decide) (fun c51 => ?_) (fun c51 => ?_)
        · have hF := hF.2 c51
          obtain ⟨x47, ex47, hF⟩ := nx_e hF
          refine z_iinc (v := x47) (lv' := [(4, .int x47), (2, .int x45), (5, .int x44), (0, .ref h_t), (1, .int v1), (3, .int k35)]) (j := 5) X dX11_potentialBehind_96 rfl (by rw [ex47]; rfl) (by decide) rfl ?_
          refine z_goto (tgt := 7) X dX11_potentialBehind_99 (by decide) ?_
          cases hF
          refine z_lv (lv' := [(0, .ref h_t), (1, .int v1), (2, .int x45), (3, .int k35), (4, .int x47)]) [3, 4, 1, 5, 0] rfl ?_
          exact ih x45 k35 x47 hL
        · have hF := hF.1 c51
          refine z_iload_n X dX11_potentialBehind_74 rfl 4 rfl ?_
          refine z_bipush (v := (60 : Int32)) X dX11_potentialBehind_75 (by decide) ?_
          refine z_aload_n X dX11_potentialBehind_77 rfl 2 rfl ?_
          refine z_get (v := .ref (a_t 2)) X k_X11_potentialBehind_26 0 rfl rfl dX11_potentialBehind_78 ?_
          refine z_get (v := .ref (a_t_state 0)) X k_X11_potentialBehind_127 2 rfl rfl dX11_potentialBehind_81 ?_
          refine z_get (v := .ref (a_t_state_wares 2)) X k_X11_potentialBehind_188 4 rfl rfl dX11_potentialBehind_84 ?_
          refine z_iload X dX11_potentialBehind_87 5 rfl ?_
          obtain ⟨g48, hF⟩ := gi_e hF
          refine z_iald X 6 rfl g48 dX11_potentialBehind_89 ?_
          refine z_imul X dX11_potentialBehind_90 ?_
          refine z_iload X dX11_potentialBehind_91 1 rfl ?_
          refine z_isub X dX11_potentialBehind_93 ?_
          refine z_iadd X dX11_potentialBehind_94 ?_
          obtain ⟨x49, ex49, hF⟩ := nx_e hF
          refine z_nm ex49 ?_
          refine z_istore_n (lv' := [(3, .int x49), (2, .int x45), (5, .int x44), (0, .ref h_t), (1, .int v1), (4, .int k36)]) X dX11_potentialBehind_95 rfl (by decide) rfl ?_
          obtain ⟨x50, ex50, hF⟩ := nx_e hF
          refine z_iinc (v := x50) (lv' := [(4, .int x50), (3, .int x49), (2, .int x45), (5, .int x44), (0, .ref h_t), (1, .int v1)]) (j := 5) X dX11_potentialBehind_96 rfl (by rw [ex50]; rfl) (by decide) rfl ?_
          refine z_goto (tgt := 7) X dX11_potentialBehind_99 (by decide) ?_
          cases hF
          refine z_lv (lv' := [(0, .ref h_t), (1, .int v1), (2, .int x45), (3, .int x49), (4, .int x50)]) [4, 5, 2, 1, 0] rfl ?_
          exact ih x45 x49 x50 hL
  refine z_lv (lv' := [(0, .ref h_t), (1, .int v1), (2, .int (0 : Int32)), (3, .int (0 : Int32)), (4, .int (0 : Int32))]) [3, 4, 2, 1, 0] rfl ?_
  exact L39 FU (0 : Int32) (0 : Int32) (0 : Int32) hL
set_option maxRecDepth 20000 in
theorem h_X11_potential_X11 : ∀ w ∈ wsX110, w ∈ wsX11_potential := by decide +kernel
set_option maxRecDepth 20000 in
theorem k_X11_potential_26 : ZF wsX11_potential RX11 26 11 2 RX11 TX11 15 := ⟨rfl, by decide, h_X11_potential_X11, by decide +kernel⟩
set_option maxRecDepth 20000 in
theorem h_X11_potential_X9 : ∀ w ∈ wsX90, w ∈ wsX11_potential := by decide +kernel
set_option maxRecDepth 20000 in
theorem k_X11_potential_143 : ZF wsX11_potential RX11 143 9 2 RX9 TX9 7 := ⟨rfl, by decide, h_X11_potential_X9, by decide +kernel⟩
set_option maxHeartbeats 8000000 in
set_option maxRecDepth 100000 in
theorem c_X11_potential (l : Launch) (D : va_G) (cA : Nat → ClassId) (g : Nat → Nat) (sz : Nat) (h_t : Nat) (a_t : Nat → Nat) (o_t : Ob) (a_t_state : Nat → Nat) (o_t_state : Ob) (a_t_state_wares : Nat → Nat) (o_t_state_wares : Ob) (a_t_state_shelf : Nat → Nat) (o_t_state_shelf : Ob) (a_t_state_log : Nat → Nat) (o_t_state_log : Ob) (a_t_planner : Nat → Nat) (o_t_planner : Ob) (v1 : Int32) (o_t_planner' : Ob) (rv : Int32) (hF : f_X11_potential o_t_state_wares o_t_state_shelf o_t_state_log o_t_planner v1 = some (o_t_planner', rv)) : Met l yX11_potential wsX11_potential ({ frames := 4, cells := 0, slots := 0, locals := 95 }) (va_Pc [.ref h_t, .int v1] (PreW D cA g sz (w_X11_leastPaid cA h_t a_t o_t a_t_state o_t_state a_t_state_wares o_t_state_wares a_t_state_shelf o_t_state_shelf a_t_state_log o_t_state_log a_t_planner o_t_planner))) (va_Qi (fun (r : Int32) (_ : Unit) => r = rv) (PostW D cA sz (w_X11_leastPaid cA h_t a_t o_t a_t_state o_t_state a_t_state_wares o_t_state_wares a_t_state_shelf o_t_state_shelf a_t_state_log o_t_state_log a_t_planner o_t_planner) (w_X11_leastPaid cA h_t a_t o_t a_t_state o_t_state a_t_state_wares o_t_state_wares a_t_state_shelf o_t_state_shelf a_t_state_log o_t_state_log a_t_planner o_t_planner')) (va_A (w_X11_leastPaid cA h_t a_t o_t a_t_state o_t_state a_t_state_wares o_t_state_wares a_t_state_shelf o_t_state_shelf a_t_state_log o_t_state_log a_t_planner o_t_planner) sz)) 0 0 (va_A (w_X11_leastPaid cA h_t a_t o_t a_t_state o_t_state a_t_state_wares o_t_state_wares a_t_state_shelf o_t_state_shelf a_t_state_log o_t_state_log a_t_planner o_t_planner) sz) := by
  refine z_start (cc := cX11_potential) (maxL := 2) (ret := (some .int)) (lv0 := [(0, .ref h_t), (1, .int v1)]) (Qc := fun sz => va_Qi (fun (r : Int32) (_ : Unit) => r = rv) (PostW D cA sz (w_X11_leastPaid cA h_t a_t o_t a_t_state o_t_state a_t_state_wares o_t_state_wares a_t_state_shelf o_t_state_shelf a_t_state_log o_t_state_log a_t_planner o_t_planner) (w_X11_leastPaid cA h_t a_t o_t a_t_state o_t_state a_t_state_wares o_t_state_wares a_t_state_shelf o_t_state_shelf a_t_state_log o_t_state_log a_t_planner o_t_planner')) (va_A (w_X11_leastPaid cA h_t a_t o_t a_t_state o_t_state a_t_state_wares o_t_state_wares a_t_state_shelf o_t_state_shelf a_t_state_log o_t_state_log a_t_planner o_t_planner) sz)) (free := fun sz => va_A (w_X11_leastPaid cA h_t a_t o_t a_t_state o_t_state a_t_state_wares o_t_state_wares a_t_state_shelf o_t_state_shelf a_t_state_log o_t_state_log a_t_planner o_t_planner) sz) (by decide +kernel) rfl rfl (Nat.le_of_ble_eq_true rfl) ?_
  intro p e R s m args below meth c A Q hR hA hQ X hr hin
  unfold f_X11_potential at hF
  refine z_aload_n X dX11_potential_0 rfl 0 rfl ?_
  refine z_get (v := .ref (a_t 2)) X k_X11_potential_26 0 rfl rfl dX11_potential_1 ?_
  refine z_get (v := .ref (a_t_state 2)) X k_X11_potential_143 2 rfl rfl dX11_potential_4 ?_
  refine z_iload_n X dX11_potential_7 rfl 1 rfl ?_
  obtain ⟨r1, hc2, hF⟩ := zb1_e hF
  refine z_Vi (As := [.int v1]) (rest := []) (wc := (w_X4_has cA (a_t_state 2) a_t_state_log o_t_state_log)) (wc' := (w_X4_has cA (a_t_state 2) a_t_state_log o_t_state_log)) (ws' := (w_X11_leastPaid cA h_t a_t o_t a_t_state o_t_state a_t_state_wares o_t_state_wares a_t_state_shelf o_t_state_shelf a_t_state_log o_t_state_log a_t_planner o_t_planner)) (rv := r1) X (cwV 1 X.2.2.2.2.1 gX11_potential_X4_has rfl rfl rfl (by decide +kernel) (by rw [hR]; exact ⟨Nat.le_of_ble_eq_true rfl, Nat.le_of_ble_eq_true rfl⟩)) (fun sz => c_X4_has l D cA g sz (a_t_state 2) a_t_state_log o_t_state_log v1 r1 hc2) [13, 14, 15, 16, 17] [0, 1, 2, 3, 4, 5, 6, 7, 8, 9, 10, 11, 12, 1000, 1001, 1002, 1003, 1004, 18, 19, 20, 21, 22, 23] rfl (by decide) rfl (by decide) rfl rfl rfl rfl rfl rfl (Nat.le_of_ble_eq_true rfl) dX11_potential_8 ⟨Nat.zero_le _, Nat.zero_le _⟩ ?_
  have hF := if_e hF
  refine z_if_ne (tgt := 16) X dX11_potential_11 (by decide) (fun c7 => ?_) (fun c7 => ?_)
  · have hF := hF.2 c7
    refine z_aload_n X dX11_potential_16 rfl 0 rfl ?_
    obtain ⟨o3, hc4, hF⟩ := zb1_e hF
    refine z_Vv (As := []) (rest := []) (wc := (w_X11_leastPaid cA h_t a_t o_t a_t_state o_t_state a_t_state_wares o_t_state_wares a_t_state_shelf o_t_state_shelf a_t_state_log o_t_state_log a_t_planner o_t_planner)) (wc' := (w_X11_leastPaid cA h_t a_t o_t a_t_state o_t_state a_t_state_wares o_t_state_wares a_t_state_shelf o_t_state_shelf a_t_state_log o_t_state_log a_t_planner o3)) (ws' := (w_X11_leastPaid cA h_t a_t o_t a_t_state o_t_state a_t_state_wares o_t_state_wares a_t_state_shelf o_t_state_shelf a_t_state_log o_t_state_log a_t_planner o3)) X (cwV 0 X.2.2.2.2.1 gX11_potential_X11_trace rfl rfl rfl (by decide +kernel) (by rw [hR]; exact ⟨Nat.le_of_ble_eq_true rfl, Nat.le_of_ble_eq_true rfl⟩)) (fun sz => c_X11_trace l D cA g sz h_t a_t o_t a_t_state o_t_state a_t_state_wares o_t_state_wares a_t_state_shelf o_t_state_shelf a_t_state_log o_t_state_log a_t_planner o_t_planner o3 hc4) [0, 1, 2, 3, 4, 5, 6, 7, 8, 9, 10, 11, 12, 13, 14, 15, 16, 17, 18, 19, 20, 21, 22, 23] [1000, 1001, 1002, 1003, 1004, 1005, 1006, 1007, 1008, 1009, 1010, 1011, 1012, 1013, 1014, 1015, 1016, 1017, 1018, 1019, 1020, 1021, 1022, 1023] rfl (by decide) rfl (by decide) rfl rfl rfl rfl rfl rfl (Nat.le_of_ble_eq_true rfl) dX11_potential_17 ⟨Nat.zero_le _, Nat.zero_le _⟩ ?_
    refine z_aload_n X dX11_potential_20 rfl 0 rfl ?_
    refine z_iload_n X dX11_potential_21 rfl 1 rfl ?_
    obtain ⟨r5, hc6, hF⟩ := zb1_e hF
    refine z_Vi (As := [.int v1]) (rest := []) (wc := (w_X11_leastPaid cA h_t a_t o_t a_t_state o_t_state a_t_state_wares o_t_state_wares a_t_state_shelf o_t_state_shelf a_t_state_log o_t_state_log a_t_planner o3)) (wc' := (w_X11_leastPaid cA h_t a_t o_t a_t_state o_t_state a_t_state_wares o_t_state_wares a_t_state_shelf o_t_state_shelf a_t_state_log o_t_state_log a_t_planner o3)) (ws' := (w_X11_leastPaid cA h_t a_t o_t a_t_state o_t_state a_t_state_wares o_t_state_wares a_t_state_shelf o_t_state_shelf a_t_state_log o_t_state_log a_t_planner o3)) (rv := r5) X (cwV 1 X.2.2.2.2.1 gX11_potential_X11_potentialBehind rfl rfl rfl (by decide +kernel) (by rw [hR]; exact ⟨Nat.le_of_ble_eq_true rfl, Nat.le_of_ble_eq_true rfl⟩)) (fun sz => c_X11_potentialBehind l D cA g sz h_t a_t o_t a_t_state o_t_state a_t_state_wares o_t_state_wares a_t_state_shelf o_t_state_shelf a_t_state_log o_t_state_log a_t_planner o3 v1 r5 hc6) [0, 1, 2, 3, 4, 5, 6, 7, 8, 9, 10, 11, 12, 13, 14, 15, 16, 17, 18, 19, 20, 21, 22, 23] [1000, 1001, 1002, 1003, 1004, 1005, 1006, 1007, 1008, 1009, 1010, 1011, 1012, 1013, 1014, 1015, 1016, 1017, 1018, 1019, 1020, 1021, 1022, 1023] rfl (by decide) rfl (by decide) rfl rfl rfl rfl rfl rfl (Nat.le_of_ble_eq_true rfl) dX11_potential_22 ⟨Nat.zero_le _, Nat.zero_le _⟩ ?_
    cases hF
    exact z_iret X hA hQ hr rfl dX11_potential_25 (Nat.le_refl _) (Nat.le_refl _)
  · have hF := hF.1 c7
    refine z_iconst (v := (-1 : Int32)) X dX11_potential_14 (by decide) ?_
    cases hF
    exact z_iret X hA hQ hr rfl dX11_potential_15 (Nat.le_refl _) (Nat.le_refl _)
set_option maxRecDepth 20000 in
theorem h_X11_proof_X11 : ∀ w ∈ wsX110, w ∈ wsX11_proof := by decide +kernel
set_option maxRecDepth 20000 in
theorem k_X11_proof_26 : ZF wsX11_proof RX11 26 11 2 RX11 TX11 15 := ⟨rfl, by decide, h_X11_proof_X11, by decide +kernel⟩
set_option maxRecDepth 20000 in
theorem k_X11_proof_67 : ZF wsX11_proof RX11 67 11 8 RX11 TX11 15 := ⟨rfl, by decide, h_X11_proof_X11, by decide +kernel⟩
set_option maxRecDepth 20000 in
theorem h_X11_proof_X9 : ∀ w ∈ wsX90, w ∈ wsX11_proof := by decide +kernel
set_option maxRecDepth 20000 in
theorem k_X11_proof_143 : ZF wsX11_proof RX11 143 9 2 RX9 TX9 7 := ⟨rfl, by decide, h_X11_proof_X9, by decide +kernel⟩
set_option maxRecDepth 20000 in
theorem k_X11_proof_160 : ZF wsX11_proof RX11 160 9 1 RX9 TX9 7 := ⟨rfl, by decide, h_X11_proof_X9, by decide +kernel⟩
set_option maxRecDepth 20000 in
theorem h_X11_proof_X8 : ∀ w ∈ wsX80, w ∈ wsX11_proof := by decide +kernel
set_option maxRecDepth 20000 in
theorem k_X11_proof_163 : ZF wsX11_proof RX11 163 8 0 RX8 TX8 7 := ⟨rfl, by decide, h_X11_proof_X8, by decide +kernel⟩
set_option maxRecDepth 20000 in
theorem h_X11_proof_X4 : ∀ w ∈ wsX40, w ∈ wsX11_proof := by decide +kernel
set_option maxRecDepth 20000 in
theorem k_X11_proof_232 : ZF wsX11_proof RX11 232 4 2 RX4 TX4 5 := ⟨rfl, by decide, h_X11_proof_X4, by decide +kernel⟩
set_option maxRecDepth 20000 in
theorem k_X11_proof_c346 : Cond.constant RX11 346 (-1000000000) ∈ wsX11_proof := by decide +kernel
set_option maxHeartbeats 8000000 in
set_option maxRecDepth 100000 in
theorem c_X11_proof (l : Launch) (D : va_G) (cA : Nat → ClassId) (g : Nat → Nat) (sz : Nat) (h_t : Nat) (a_t : Nat → Nat) (o_t : Ob) (a_t_state : Nat → Nat) (o_t_state : Ob) (a_t_state_wares : Nat → Nat) (o_t_state_wares : Ob) (a_t_state_shelf : Nat → Nat) (o_t_state_shelf : Ob) (a_t_state_log : Nat → Nat) (o_t_state_log : Ob) (a_t_planner : Nat → Nat) (o_t_planner : Ob) (v1 : Int32) (o_t_planner' : Ob) (rv : Int32) (hF : f_X11_proof o_t_state_wares o_t_state_shelf o_t_state_log o_t_planner v1 = some (o_t_planner', rv)) : Met l yX11_proof wsX11_proof ({ frames := 4, cells := 0, slots := 0, locals := 95 }) (va_Pc [.ref h_t, .int v1] (PreW D cA g sz (w_X11_leastPaid cA h_t a_t o_t a_t_state o_t_state a_t_state_wares o_t_state_wares a_t_state_shelf o_t_state_shelf a_t_state_log o_t_state_log a_t_planner o_t_planner))) (va_Qi (fun (r : Int32) (_ : Unit) => r = rv) (PostW D cA sz (w_X11_leastPaid cA h_t a_t o_t a_t_state o_t_state a_t_state_wares o_t_state_wares a_t_state_shelf o_t_state_shelf a_t_state_log o_t_state_log a_t_planner o_t_planner) (w_X11_leastPaid cA h_t a_t o_t a_t_state o_t_state a_t_state_wares o_t_state_wares a_t_state_shelf o_t_state_shelf a_t_state_log o_t_state_log a_t_planner o_t_planner')) (va_A (w_X11_leastPaid cA h_t a_t o_t a_t_state o_t_state a_t_state_wares o_t_state_wares a_t_state_shelf o_t_state_shelf a_t_state_log o_t_state_log a_t_planner o_t_planner) sz)) 0 0 (va_A (w_X11_leastPaid cA h_t a_t o_t a_t_state o_t_state a_t_state_wares o_t_state_wares a_t_state_shelf o_t_state_shelf a_t_state_log o_t_state_log a_t_planner o_t_planner) sz) := by
  refine z_start (cc := cX11_proof) (maxL := 4) (ret := (some .int)) (lv0 := [(0, .ref h_t), (1, .int v1)]) (Qc := fun sz => va_Qi (fun (r : Int32) (_ : Unit) => r = rv) (PostW D cA sz (w_X11_leastPaid cA h_t a_t o_t a_t_state o_t_state a_t_state_wares o_t_state_wares a_t_state_shelf o_t_state_shelf a_t_state_log o_t_state_log a_t_planner o_t_planner) (w_X11_leastPaid cA h_t a_t o_t a_t_state o_t_state a_t_state_wares o_t_state_wares a_t_state_shelf o_t_state_shelf a_t_state_log o_t_state_log a_t_planner o_t_planner')) (va_A (w_X11_leastPaid cA h_t a_t o_t a_t_state o_t_state a_t_state_wares o_t_state_wares a_t_state_shelf o_t_state_shelf a_t_state_log o_t_state_log a_t_planner o_t_planner) sz)) (free := fun sz => va_A (w_X11_leastPaid cA h_t a_t o_t a_t_state o_t_state a_t_state_wares o_t_state_wares a_t_state_shelf o_t_state_shelf a_t_state_log o_t_state_log a_t_planner o_t_planner) sz) (by decide +kernel) rfl rfl (Nat.le_of_ble_eq_true rfl) ?_
  intro p e R s m args below meth c A Q hR hA hQ X hr hin
  unfold f_X11_proof at hF
  refine z_aload_n X dX11_proof_0 rfl 0 rfl ?_
  refine z_get (v := .ref (a_t 2)) X k_X11_proof_26 0 rfl rfl dX11_proof_1 ?_
  refine z_get (v := .ref (a_t_state 2)) X k_X11_proof_143 2 rfl rfl dX11_proof_4 ?_
  refine z_iload_n X dX11_proof_7 rfl 1 rfl ?_
  obtain ⟨r1, hc2, hF⟩ := zb1_e hF
  refine z_Vi (As := [.int v1]) (rest := []) (wc := (w_X4_has cA (a_t_state 2) a_t_state_log o_t_state_log)) (wc' := (w_X4_has cA (a_t_state 2) a_t_state_log o_t_state_log)) (ws' := (w_X11_leastPaid cA h_t a_t o_t a_t_state o_t_state a_t_state_wares o_t_state_wares a_t_state_shelf o_t_state_shelf a_t_state_log o_t_state_log a_t_planner o_t_planner)) (rv := r1) X (cwV 1 X.2.2.2.2.1 gX11_proof_X4_has rfl rfl rfl (by decide +kernel) (by rw [hR]; exact ⟨Nat.le_of_ble_eq_true rfl, Nat.le_of_ble_eq_true rfl⟩)) (fun sz => c_X4_has l D cA g sz (a_t_state 2) a_t_state_log o_t_state_log v1 r1 hc2) [13, 14, 15, 16, 17] [0, 1, 2, 3, 4, 5, 6, 7, 8, 9, 10, 11, 12, 1000, 1001, 1002, 1003, 1004, 18, 19, 20, 21, 22, 23] rfl (by decide) rfl (by decide) rfl rfl rfl rfl rfl rfl (Nat.le_of_ble_eq_true rfl) dX11_proof_8 ⟨Nat.zero_le _, Nat.zero_le _⟩ ?_
  have hF := if_e hF
  refine z_if_ne (tgt := 18) X dX11_proof_11 (by decide) (fun c20 => ?_) (fun c20 => ?_)
  · have hF := hF.2 c20
    refine z_aload_n X dX11_proof_18 rfl 0 rfl ?_
    obtain ⟨o3, hc4, hF⟩ := zb1_e hF
    refine z_Vv (As := []) (rest := []) (wc := (w_X11_leastPaid cA h_t a_t o_t a_t_state o_t_state a_t_state_wares o_t_state_wares a_t_state_shelf o_t_state_shelf a_t_state_log o_t_state_log a_t_planner o_t_planner)) (wc' := (w_X11_leastPaid cA h_t a_t o_t a_t_state o_t_state a_t_state_wares o_t_state_wares a_t_state_shelf o_t_state_shelf a_t_state_log o_t_state_log a_t_planner o3)) (ws' := (w_X11_leastPaid cA h_t a_t o_t a_t_state o_t_state a_t_state_wares o_t_state_wares a_t_state_shelf o_t_state_shelf a_t_state_log o_t_state_log a_t_planner o3)) X (cwV 0 X.2.2.2.2.1 gX11_proof_X11_trace rfl rfl rfl (by decide +kernel) (by rw [hR]; exact ⟨Nat.le_of_ble_eq_true rfl, Nat.le_of_ble_eq_true rfl⟩)) (fun sz => c_X11_trace l D cA g sz h_t a_t o_t a_t_state o_t_state a_t_state_wares o_t_state_wares a_t_state_shelf o_t_state_shelf a_t_state_log o_t_state_log a_t_planner o_t_planner o3 hc4) [0, 1, 2, 3, 4, 5, 6, 7, 8, 9, 10, 11, 12, 13, 14, 15, 16, 17, 18, 19, 20, 21, 22, 23] [1000, 1001, 1002, 1003, 1004, 1005, 1006, 1007, 1008, 1009, 1010, 1011, 1012, 1013, 1014, 1015, 1016, 1017, 1018, 1019, 1020, 1021, 1022, 1023] rfl (by decide) rfl (by decide) rfl rfl rfl rfl rfl rfl (Nat.le_of_ble_eq_true rfl) dX11_proof_19 ⟨Nat.zero_le _, Nat.zero_le _⟩ ?_
    refine z_aload_n X dX11_proof_22 rfl 0 rfl ?_
    refine z_iload_n X dX11_proof_23 rfl 1 rfl ?_
    obtain ⟨r5, hc6, hF⟩ := zb1_e hF
    refine z_Vi (As := [.int v1]) (rest := []) (wc := (w_X11_leastPaid cA h_t a_t o_t a_t_state o_t_state a_t_state_wares o_t_state_wares a_t_state_shelf o_t_state_shelf a_t_state_log o_t_state_log a_t_planner o3)) (wc' := (w_X11_leastPaid cA h_t a_t o_t a_t_state o_t_state a_t_state_wares o_t_state_wares a_t_state_shelf o_t_state_shelf a_t_state_log o_t_state_log a_t_planner o3)) (ws' := (w_X11_leastPaid cA h_t a_t o_t a_t_state o_t_state a_t_state_wares o_t_state_wares a_t_state_shelf o_t_state_shelf a_t_state_log o_t_state_log a_t_planner o3)) (rv := r5) X (cwV 1 X.2.2.2.2.1 gX11_proof_X11_potentialBehind rfl rfl rfl (by decide +kernel) (by rw [hR]; exact ⟨Nat.le_of_ble_eq_true rfl, Nat.le_of_ble_eq_true rfl⟩)) (fun sz => c_X11_potentialBehind l D cA g sz h_t a_t o_t a_t_state o_t_state a_t_state_wares o_t_state_wares a_t_state_shelf o_t_state_shelf a_t_state_log o_t_state_log a_t_planner o3 v1 r5 hc6) [0, 1, 2, 3, 4, 5, 6, 7, 8, 9, 10, 11, 12, 13, 14, 15, 16, 17, 18, 19, 20, 21, 22, 23] [1000, 1001, 1002, 1003, 1004, 1005, 1006, 1007, 1008, 1009, 1010, 1011, 1012, 1013, 1014, 1015, 1016, 1017, 1018, 1019, 1020, 1021, 1022, 1023] rfl (by decide) rfl (by decide) rfl rfl rfl rfl rfl rfl (Nat.le_of_ble_eq_true rfl) dX11_proof_24 ⟨Nat.zero_le _, Nat.zero_le _⟩ ?_
    refine z_iload_n X dX11_proof_27 rfl 1 rfl ?_
    obtain ⟨K11, eK11, hF⟩ := nx_e hF
    have K11_l : ∀ (j10 : Int32), K11 j10 = some (o_t_planner', rv) → ZW p l e R s m args below meth c D A 4 0 0 Q (w_X11_leastPaid cA h_t a_t o_t a_t_state o_t_state a_t_state_wares o_t_state_wares a_t_state_shelf o_t_state_shelf a_t_state_log o_t_state_log a_t_planner o3) [(0, .ref h_t), (1, .int v1)] 42 [.int j10, .int r5] := by
      intro j10 hF
      rw [eK11] at hF
      refine z_isub X dX11_proof_42 ?_
      obtain ⟨x12, ex12, hF⟩ := nx_e hF
      refine z_nm ex12 ?_
      refine z_istore_n (lv' := [(2, .int x12), (0, .ref h_t), (1, .int v1)]) X dX11_proof_43 rfl (by decide) rfl ?_
      refine z_bipush (v := (60 : Int32)) X dX11_proof_44 (by decide) ?_
      refine z_aload_n X dX11_proof_46 rfl 1 rfl ?_
      refine z_get (v := .ref (a_t 2)) X k_X11_proof_26 0 rfl rfl dX11_proof_47 ?_
      refine z_get (v := .ref (a_t_state 1)) X k_X11_proof_160 2 rfl rfl dX11_proof_50 ?_
      refine z_get (v := .int (o_t_state_shelf 0 0)) X k_X11_proof_163 9 rfl rfl dX11_proof_53 ?_
      refine z_imul X dX11_proof_56 ?_
      refine z_aload_n X dX11_proof_57 rfl 1 rfl ?_
      refine z_get (v := .ref (a_t 8)) X k_X11_proof_67 0 rfl rfl dX11_proof_58 ?_
      refine z_aload_n X dX11_proof_61 rfl 1 rfl ?_
      refine z_get (v := .ref (a_t 2)) X k_X11_proof_26 0 rfl rfl dX11_proof_62 ?_
      refine z_iload_n X dX11_proof_65 rfl 2 rfl ?_
      obtain ⟨r13, hc14, hF⟩ := zb1_e hF
      refine z_Vi (As := [.ref (a_t 2), .int v1]) (rest := [.int ((60 : Int32) * (o_t_state_shelf 0 0))]) (wc := (w_X5_servingCost cA (a_t 8) a_t_planner 10496 o3 (a_t 2) a_t_state o_t_state a_t_state_wares o_t_state_wares a_t_state_log o_t_state_log)) (wc' := (w_X5_servingCost cA (a_t 8) a_t_planner 10496 o3 (a_t 2) a_t_state o_t_state a_t_state_wares o_t_state_wares a_t_state_log o_t_state_log)) (ws' := (w_X11_leastPaid cA h_t a_t o_t a_t_state o_t_state a_t_state_wares o_t_state_wares a_t_state_shelf o_t_state_shelf a_t_state_log o_t_state_log a_t_planner o3)) (rv := r13) X (cwV 2 X.2.2.2.2.1 gX11_proof_X5_paysAt rfl rfl rfl (by decide +kernel) (by rw [hR]; exact ⟨Nat.le_of_ble_eq_true rfl, Nat.le_of_ble_eq_true rfl⟩)) (fun sz => c_X5_paysAt l D cA g sz (a_t 8) a_t_planner 10496 o3 (a_t 2) a_t_state o_t_state a_t_state_wares o_t_state_wares a_t_state_log o_t_state_log v1 r13 hc14) [18, 19, 20, 21, 22, 23, 2, 3, 4, 5, 6, 7, 8, 13, 14, 15, 16, 17] [0, 1, 1006, 1007, 1008, 1009, 1010, 1011, 1012, 9, 10, 11, 12, 1013, 1014, 1015, 1016, 1017, 1000, 1001, 1002, 1003, 1004, 1005] rfl (by decide) rfl (by decide) rfl rfl rfl rfl rfl rfl (Nat.le_of_ble_eq_true rfl) dX11_proof_66 ⟨Nat.zero_le _, Nat.zero_le _⟩ ?_
      refine z_imul X dX11_proof_69 ?_
      obtain ⟨x15, ex15, hF⟩ := nx_e hF
      refine z_nm ex15 ?_
      refine z_istore_n (lv' := [(3, .int x15), (2, .int x12), (0, .ref h_t), (1, .int v1)]) X dX11_proof_70 rfl (by decide) rfl ?_
      refine z_iload_n X dX11_proof_71 rfl 0 rfl ?_
      refine z_bipush (v := (60 : Int32)) X dX11_proof_72 (by decide) ?_
      refine z_aload_n X dX11_proof_74 rfl 2 rfl ?_
      refine z_get (v := .ref (a_t 2)) X k_X11_proof_26 0 rfl rfl dX11_proof_75 ?_
      refine z_get (v := .ref (a_t_state 2)) X k_X11_proof_143 2 rfl rfl dX11_proof_78 ?_
      refine z_get (v := .ref (a_t_state_log 2)) X k_X11_proof_232 13 rfl rfl dX11_proof_81 ?_
      refine z_iload_n X dX11_proof_84 rfl 3 rfl ?_
      obtain ⟨g16, hF⟩ := gi_e hF
      refine z_iald X 15 rfl g16 dX11_proof_85 ?_
      refine z_imul X dX11_proof_86 ?_
      refine z_isub X dX11_proof_87 ?_
      refine z_iload_n X dX11_proof_88 rfl 1 rfl ?_
      refine z_isub X dX11_proof_89 ?_
      cases hF
      exact z_iret X hA hQ hr rfl dX11_proof_90 (Nat.le_refl _) (Nat.le_refl _)
    have hF := if_e hF
    refine z_if_ne (tgt := 35) X dX11_proof_28 (by decide) (fun c19 => ?_) (fun c19 => ?_)
    · have hF := hF.2 c19
      refine z_aload_n X dX11_proof_35 rfl 0 rfl ?_
      refine z_iload_n X dX11_proof_36 rfl 1 rfl ?_
      refine z_iconst (v := (1 : Int32)) X dX11_proof_37 (by decide) ?_
      refine z_isub X dX11_proof_38 ?_
      obtain ⟨r17, hc18, hF⟩ := zb1_e hF
      refine z_Vi (As := [.int (v1 - (1 : Int32))]) (rest := [.int r5]) (wc := (w_X11_leastPaid cA h_t a_t o_t a_t_state o_t_state a_t_state_wares o_t_state_wares a_t_state_shelf o_t_state_shelf a_t_state_log o_t_state_log a_t_planner o3)) (wc' := (w_X11_leastPaid cA h_t a_t o_t a_t_state o_t_state a_t_state_wares o_t_state_wares a_t_state_shelf o_t_state_shelf a_t_state_log o_t_state_log a_t_planner o3)) (ws' := (w_X11_leastPaid cA h_t a_t o_t a_t_state o_t_state a_t_state_wares o_t_state_wares a_t_state_shelf o_t_state_shelf a_t_state_log o_t_state_log a_t_planner o3)) (rv := r17) X (cwV 1 X.2.2.2.2.1 gX11_proof_X11_potentialBehind rfl rfl rfl (by decide +kernel) (by rw [hR]; exact ⟨Nat.le_of_ble_eq_true rfl, Nat.le_of_ble_eq_true rfl⟩)) (fun sz => c_X11_potentialBehind l D cA g sz h_t a_t o_t a_t_state o_t_state a_t_state_wares o_t_state_wares a_t_state_shelf o_t_state_shelf a_t_state_log o_t_state_log a_t_planner o3 (v1 - (1 : Int32)) r17 hc18) [0, 1, 2, 3, 4, 5, 6, 7, 8, 9, 10, 11, 12, 13, 14, 15, 16, 17, 18, 19, 20, 21, 22, 23] [1000, 1001, 1002, 1003, 1004, 1005, 1006, 1007, 1008, 1009, 1010, 1011, 1012, 1013, 1014, 1015, 1016, 1017, 1018, 1019, 1020, 1021, 1022, 1023] rfl (by decide) rfl (by decide) rfl rfl rfl rfl rfl rfl (Nat.le_of_ble_eq_true rfl) dX11_proof_39 ⟨Nat.zero_le _, Nat.zero_le _⟩ ?_
      refine z_lv (lv' := [(0, .ref h_t), (1, .int v1)]) [0, 1] rfl ?_
      exact K11_l r17 hF
    · have hF := hF.1 c19
      refine z_iconst (v := (0 : Int32)) X dX11_proof_31 (by decide) ?_
      refine z_goto (tgt := 42) X dX11_proof_32 (by decide) ?_
      refine z_lv (lv' := [(0, .ref h_t), (1, .int v1)]) [0, 1] rfl ?_
      exact K11_l (0 : Int32) hF
  · have hF := hF.1 c20
    refine z_ldcw X k_X11_proof_c346 dX11_proof_14 ?_
    cases hF
    exact z_iret X hA hQ hr rfl dX11_proof_17 (Nat.le_refl _) (Nat.le_refl _)
abbrev w_X11_trialLeast (cA : Nat → ClassId) (h_t : Nat) (a_t : Nat → Nat) (o_t : Ob) (a_t_state : Nat → Nat) (o_t_state : Ob) (a_t_state_wares : Nat → Nat) (o_t_state_wares : Ob) (a_t_state_shelf : Nat → Nat) (o_t_state_shelf : Ob) (a_t_state_log : Nat → Nat) (o_t_state_log : Ob) (a_t_trialPlanner : Nat → Nat) (o_t_trialPlanner : Ob) : va_W := [(h_t, .inr (11, [.ref (a_t 0), .ref (a_t 1), .ref (a_t 2), .ref (a_t 3), .ref (a_t 4), .ref (a_t 5), .ref (a_t 6), .ref (a_t 7), .ref (a_t 8), .ref (a_t 9), .ref (a_t 10), .ref (a_t 11), .ref (a_t 12), .int (o_t 13 0), .int (o_t 14 0)])), (a_t 12, .inl (cA 0, 20, .inl (o_t 12))), ((a_t 2), .inr (9, [.ref (a_t_state 0), .ref (a_t_state 1), .ref (a_t_state 2), .ref (a_t_state 3), .int (o_t_state 4 0), .int (o_t_state 5 0), .int (o_t_state 6 0)])), (a_t_state 3, .inl (cA 4, 3, .inr (.inr (.inr (.inr (bk (a_t_state 20) (a_t_state 21) (a_t_state 22))))))), ((a_t_state 0), .inr (10, [.int (o_t_state_wares 0 0), .ref (a_t_state_wares 1), .ref (a_t_state_wares 2), .ref (a_t_state_wares 3), .ref (a_t_state_wares 4)])), (a_t_state_wares 1, .inl (cA 0, 8, .inl (o_t_state_wares 1))), (a_t_state_wares 2, .inl (cA 0, 8, .inl (o_t_state_wares 2))), (a_t_state_wares 3, .inl (cA 0, 8, .inl (o_t_state_wares 3))), (a_t_state_wares 4, .inl (cA 0, 8, .inl (o_t_state_wares 4))), ((a_t_state 1), .inr (8, [.int (o_t_state_shelf 0 0), .int (o_t_state_shelf 1 0), .int (o_t_state_shelf 2 0), .int (o_t_state_shelf 3 0), .ref (a_t_state_shelf 4), .ref (a_t_state_shelf 5), .ref (a_t_state_shelf 6)])), (a_t_state_shelf 4, .inl (cA 0, 8, .inl (o_t_state_shelf 4))), (a_t_state_shelf 5, .inl (cA 0, 8, .inl (o_t_state_shelf 5))), (a_t_state_shelf 6, .inl (cA 1, 8, .inr (.inr (.inl (fun j => (o_t_state_shelf 6 j).toUInt32))))), ((a_t_state 2), .inr (4, [.int (o_t_state_log 0 0), .ref (a_t_state_log 1), .ref (a_t_state_log 2), .ref (a_t_state_log 3), .ref (a_t_state_log 4)])), (a_t_state_log 1, .inl (cA 0, 40, .inl (o_t_state_log 1))), (a_t_state_log 2, .inl (cA 0, 40, .inl (o_t_state_log 2))), (a_t_state_log 3, .inl (cA 0, 40, .inl (o_t_state_log 3))), (a_t_state_log 4, .inl (cA 0, 320, .inl (o_t_state_log 4))), ((a_t 9), .inr (5, [.int (o_t_trialPlanner 0 0), .ref (a_t_trialPlanner 1), .ref (a_t_trialPlanner 2), .ref (a_t_trialPlanner 3), .ref (a_t_trialPlanner 4), .int (o_t_trialPlanner 5 0), .int (o_t_trialPlanner 6 0), .int (o_t_trialPlanner 7 0), .int (o_t_trialPlanner 8 0), .ref (a_t_trialPlanner 9)])), (a_t_trialPlanner 1, .inl (cA 0, 512, .inl (o_t_trialPlanner 1))), (a_t_trialPlanner 2, .inl (cA 0, 256, .inl (o_t_trialPlanner 2))), (a_t_trialPlanner 3, .inl (cA 0, 256, .inl (o_t_trialPlanner 3))), (a_t_trialPlanner 4, .inl (cA 0, 256, .inl (o_t_trialPlanner 4))), (a_t_trialPlanner 9, .inl (cA 0, 40, .inl (o_t_trialPlanner 9)))]
set_option maxRecDepth 20000 in
theorem h_X11_trialLeast_X11 : ∀ w ∈ wsX110, w ∈ wsX11_trialLeast := by decide +kernel
set_option maxRecDepth 20000 in
theorem k_X11_trialLeast_26 : ZF wsX11_trialLeast RX11 26 11 2 RX11 TX11 15 := ⟨rfl, by decide, h_X11_trialLeast_X11, by decide +kernel⟩
set_option maxRecDepth 20000 in
theorem k_X11_trialLeast_71 : ZF wsX11_trialLeast RX11 71 11 9 RX11 TX11 15 := ⟨rfl, by decide, h_X11_trialLeast_X11, by decide +kernel⟩
set_option maxRecDepth 20000 in
theorem h_X11_trialLeast_X9 : ∀ w ∈ wsX90, w ∈ wsX11_trialLeast := by decide +kernel
set_option maxRecDepth 20000 in
theorem k_X11_trialLeast_143 : ZF wsX11_trialLeast RX11 143 9 2 RX9 TX9 7 := ⟨rfl, by decide, h_X11_trialLeast_X9, by decide +kernel⟩
set_option maxRecDepth 20000 in
theorem h_X11_trialLeast_X4 : ∀ w ∈ wsX40, w ∈ wsX11_trialLeast := by decide +kernel
set_option maxRecDepth 20000 in
theorem k_X11_trialLeast_175 : ZF wsX11_trialLeast RX11 175 4 0 RX4 TX4 5 := ⟨rfl, by decide, h_X11_trialLeast_X4, by decide +kernel⟩
set_option maxHeartbeats 8000000 in
set_option maxRecDepth 100000 in
theorem c_X11_trialLeast (l : Launch) (D : va_G) (cA : Nat → ClassId) (g : Nat → Nat) (sz : Nat) (h_t : Nat) (a_t : Nat → Nat) (o_t : Ob) (a_t_state : Nat → Nat) (o_t_state : Ob) (a_t_state_wares : Nat → Nat) (o_t_state_wares : Ob) (a_t_state_shelf : Nat → Nat) (o_t_state_shelf : Ob) (a_t_state_log : Nat → Nat) (o_t_state_log : Ob) (a_t_trialPlanner : Nat → Nat) (o_t_trialPlanner : Ob) (v1 : Int32) (v2 : Int32) (o_t_trialPlanner' : Ob) (rv : Int32) (hF : f_X11_trialLeast o_t_state_wares o_t_state_shelf o_t_state_log o_t_trialPlanner v1 v2 = some (o_t_trialPlanner', rv)) : Met l yX11_trialLeast wsX11_trialLeast ({ frames := 3, cells := 0, slots := 0, locals := 75 }) (va_Pc [.ref h_t, .int v1, .int v2] (PreW D cA g sz (w_X11_trialLeast cA h_t a_t o_t a_t_state o_t_state a_t_state_wares o_t_state_wares a_t_state_shelf o_t_state_shelf a_t_state_log o_t_state_log a_t_trialPlanner o_t_trialPlanner))) (va_Qi (fun (r : Int32) (_ : Unit) => r = rv) (PostW D cA sz (w_X11_trialLeast cA h_t a_t o_t a_t_state o_t_state a_t_state_wares o_t_state_wares a_t_state_shelf o_t_state_shelf a_t_state_log o_t_state_log a_t_trialPlanner o_t_trialPlanner) (w_X11_trialLeast cA h_t a_t o_t a_t_state o_t_state a_t_state_wares o_t_state_wares a_t_state_shelf o_t_state_shelf a_t_state_log o_t_state_log a_t_trialPlanner o_t_trialPlanner')) (va_A (w_X11_trialLeast cA h_t a_t o_t a_t_state o_t_state a_t_state_wares o_t_state_wares a_t_state_shelf o_t_state_shelf a_t_state_log o_t_state_log a_t_trialPlanner o_t_trialPlanner) sz)) 0 0 (va_A (w_X11_trialLeast cA h_t a_t o_t a_t_state o_t_state a_t_state_wares o_t_state_wares a_t_state_shelf o_t_state_shelf a_t_state_log o_t_state_log a_t_trialPlanner o_t_trialPlanner) sz) := by
  refine z_start (cc := cX11_trialLeast) (maxL := 3) (ret := (some .int)) (lv0 := [(0, .ref h_t), (1, .int v1), (2, .int v2)]) (Qc := fun sz => va_Qi (fun (r : Int32) (_ : Unit) => r = rv) (PostW D cA sz (w_X11_trialLeast cA h_t a_t o_t a_t_state o_t_state a_t_state_wares o_t_state_wares a_t_state_shelf o_t_state_shelf a_t_state_log o_t_state_log a_t_trialPlanner o_t_trialPlanner) (w_X11_trialLeast cA h_t a_t o_t a_t_state o_t_state a_t_state_wares o_t_state_wares a_t_state_shelf o_t_state_shelf a_t_state_log o_t_state_log a_t_trialPlanner o_t_trialPlanner')) (va_A (w_X11_trialLeast cA h_t a_t o_t a_t_state o_t_state a_t_state_wares o_t_state_wares a_t_state_shelf o_t_state_shelf a_t_state_log o_t_state_log a_t_trialPlanner o_t_trialPlanner) sz)) (free := fun sz => va_A (w_X11_trialLeast cA h_t a_t o_t a_t_state o_t_state a_t_state_wares o_t_state_wares a_t_state_shelf o_t_state_shelf a_t_state_log o_t_state_log a_t_trialPlanner o_t_trialPlanner) sz) (by decide +kernel) rfl rfl (Nat.le_of_ble_eq_true rfl) ?_
  intro p e R s m args below meth c A Q hR hA hQ X hr hin
  unfold f_X11_trialLeast at hF
  refine z_aload_n X dX11_trialLeast_0 rfl 0 rfl ?_
  refine z_get (v := .ref (a_t 9)) X k_X11_trialLeast_71 0 rfl rfl dX11_trialLeast_1 ?_
  obtain ⟨o1, hc2, hF⟩ := zb1_e hF
  refine z_Vv (As := []) (rest := []) (wc := (w_X5_forget cA (a_t 9) a_t_trialPlanner 512 o_t_trialPlanner)) (wc' := (w_X5_forget cA (a_t 9) a_t_trialPlanner 512 o1)) (ws' := (w_X11_trialLeast cA h_t a_t o_t a_t_state o_t_state a_t_state_wares o_t_state_wares a_t_state_shelf o_t_state_shelf a_t_state_log o_t_state_log a_t_trialPlanner o1)) X (cwV 0 X.2.2.2.2.1 gX11_trialLeast_X5_forget rfl rfl rfl (by decide +kernel) (by rw [hR]; exact ⟨Nat.le_of_ble_eq_true rfl, Nat.le_of_ble_eq_true rfl⟩)) (fun sz => c_X5_forget l D cA g sz (a_t 9) a_t_trialPlanner 512 o_t_trialPlanner o1 hc2) [18, 19, 20, 21, 22, 23] [0, 1, 2, 3, 4, 5, 6, 7, 8, 9, 10, 11, 12, 13, 14, 15, 16, 17, 1000, 1001, 1002, 1003, 1004, 1005] rfl (by decide) rfl (by decide) rfl rfl rfl rfl rfl rfl (Nat.le_of_ble_eq_true rfl) dX11_trialLeast_4 ⟨Nat.zero_le _, Nat.zero_le _⟩ ?_
  refine z_aload_n X dX11_trialLeast_7 rfl 0 rfl ?_
  refine z_get (v := .ref (a_t 9)) X k_X11_trialLeast_71 0 rfl rfl dX11_trialLeast_8 ?_
  refine z_aload_n X dX11_trialLeast_11 rfl 0 rfl ?_
  refine z_get (v := .ref (a_t 2)) X k_X11_trialLeast_26 0 rfl rfl dX11_trialLeast_12 ?_
  refine z_iload_n X dX11_trialLeast_15 rfl 1 rfl ?_
  refine z_iload_n X dX11_trialLeast_16 rfl 2 rfl ?_
  obtain ⟨o3, hc4, hF⟩ := zb1_e hF
  refine z_Vv (As := [.ref (a_t 2), .int v1, .int v2]) (rest := []) (wc := (w_X5_follow cA (a_t 9) a_t_trialPlanner 512 o1 (a_t 2) a_t_state o_t_state a_t_state_wares o_t_state_wares a_t_state_shelf o_t_state_shelf a_t_state_log o_t_state_log)) (wc' := (w_X5_follow cA (a_t 9) a_t_trialPlanner 512 o3 (a_t 2) a_t_state o_t_state a_t_state_wares o_t_state_wares a_t_state_shelf o_t_state_shelf a_t_state_log o_t_state_log)) (ws' := (w_X11_trialLeast cA h_t a_t o_t a_t_state o_t_state a_t_state_wares o_t_state_wares a_t_state_shelf o_t_state_shelf a_t_state_log o_t_state_log a_t_trialPlanner o3)) X (cwV 3 X.2.2.2.2.1 gX11_trialLeast_X5_follow rfl rfl rfl (by decide +kernel) (by rw [hR]; exact ⟨Nat.le_of_ble_eq_true rfl, Nat.le_of_ble_eq_true rfl⟩)) (fun sz => c_X5_follow l D cA g sz (a_t 9) a_t_trialPlanner 512 o1 (a_t 2) a_t_state o_t_state a_t_state_wares o_t_state_wares a_t_state_shelf o_t_state_shelf a_t_state_log o_t_state_log v1 v2 o3 hc4) [18, 19, 20, 21, 22, 23, 2, 3, 4, 5, 6, 7, 8, 9, 10, 11, 12, 13, 14, 15, 16, 17] [0, 1, 1006, 1007, 1008, 1009, 1010, 1011, 1012, 1013, 1014, 1015, 1016, 1017, 1018, 1019, 1020, 1021, 1000, 1001, 1002, 1003, 1004, 1005] rfl (by decide) rfl (by decide) rfl rfl rfl rfl rfl rfl (Nat.le_of_ble_eq_true rfl) dX11_trialLeast_17 ⟨Nat.zero_le _, Nat.zero_le _⟩ ?_
  refine z_aload_n X dX11_trialLeast_20 rfl 0 rfl ?_
  refine z_get (v := .ref (a_t 9)) X k_X11_trialLeast_71 0 rfl rfl dX11_trialLeast_21 ?_
  refine z_aload_n X dX11_trialLeast_24 rfl 0 rfl ?_
  refine z_get (v := .ref (a_t 2)) X k_X11_trialLeast_26 0 rfl rfl dX11_trialLeast_25 ?_
  refine z_get (v := .ref (a_t_state 2)) X k_X11_trialLeast_143 2 rfl rfl dX11_trialLeast_28 ?_
  refine z_get (v := .int (o_t_state_log 0 0)) X k_X11_trialLeast_175 13 rfl rfl dX11_trialLeast_31 ?_
  obtain ⟨r5, hc6, hF⟩ := zb1_e hF
  refine z_Vi (As := [.int (o_t_state_log 0 0)]) (rest := []) (wc := (w_X5_forget cA (a_t 9) a_t_trialPlanner 512 o3)) (wc' := (w_X5_forget cA (a_t 9) a_t_trialPlanner 512 o3)) (ws' := (w_X11_trialLeast cA h_t a_t o_t a_t_state o_t_state a_t_state_wares o_t_state_wares a_t_state_shelf o_t_state_shelf a_t_state_log o_t_state_log a_t_trialPlanner o3)) (rv := r5) X (cwV 1 X.2.2.2.2.1 gX11_trialLeast_X5_least rfl rfl rfl (by decide +kernel) (by rw [hR]; exact ⟨Nat.le_of_ble_eq_true rfl, Nat.le_of_ble_eq_true rfl⟩)) (fun sz => c_X5_least l D cA g sz (a_t 9) a_t_trialPlanner 512 o3 (o_t_state_log 0 0) r5 hc6) [18, 19, 20, 21, 22, 23] [0, 1, 2, 3, 4, 5, 6, 7, 8, 9, 10, 11, 12, 13, 14, 15, 16, 17, 1000, 1001, 1002, 1003, 1004, 1005] rfl (by decide) rfl (by decide) rfl rfl rfl rfl rfl rfl (Nat.le_of_ble_eq_true rfl) dX11_trialLeast_34 ⟨Nat.zero_le _, Nat.zero_le _⟩ ?_
  cases hF
  exact z_iret X hA hQ hr rfl dX11_trialLeast_37 (Nat.le_refl _) (Nat.le_refl _)
set_option maxRecDepth 20000 in
theorem h_X11_bestWith_X11 : ∀ w ∈ wsX110, w ∈ wsX11_bestWith := by decide +kernel
set_option maxRecDepth 20000 in
theorem k_X11_bestWith_26 : ZF wsX11_bestWith RX11 26 11 2 RX11 TX11 15 := ⟨rfl, by decide, h_X11_bestWith_X11, by decide +kernel⟩
set_option maxRecDepth 20000 in
theorem h_X11_bestWith_X9 : ∀ w ∈ wsX90, w ∈ wsX11_bestWith := by decide +kernel
set_option maxRecDepth 20000 in
theorem k_X11_bestWith_127 : ZF wsX11_bestWith RX11 127 9 0 RX9 TX9 7 := ⟨rfl, by decide, h_X11_bestWith_X9, by decide +kernel⟩
set_option maxRecDepth 20000 in
theorem k_X11_bestWith_143 : ZF wsX11_bestWith RX11 143 9 2 RX9 TX9 7 := ⟨rfl, by decide, h_X11_bestWith_X9, by decide +kernel⟩
set_option maxRecDepth 20000 in
theorem k_X11_bestWith_160 : ZF wsX11_bestWith RX11 160 9 1 RX9 TX9 7 := ⟨rfl, by decide, h_X11_bestWith_X9, by decide +kernel⟩
set_option maxRecDepth 20000 in
theorem h_X11_bestWith_X8 : ∀ w ∈ wsX80, w ∈ wsX11_bestWith := by decide +kernel
set_option maxRecDepth 20000 in
theorem k_X11_bestWith_163 : ZF wsX11_bestWith RX11 163 8 0 RX8 TX8 7 := ⟨rfl, by decide, h_X11_bestWith_X8, by decide +kernel⟩
set_option maxRecDepth 20000 in
theorem h_X11_bestWith_X4 : ∀ w ∈ wsX40, w ∈ wsX11_bestWith := by decide +kernel
set_option maxRecDepth 20000 in
theorem k_X11_bestWith_175 : ZF wsX11_bestWith RX11 175 4 0 RX4 TX4 5 := ⟨rfl, by decide, h_X11_bestWith_X4, by decide +kernel⟩
set_option maxRecDepth 20000 in
theorem k_X11_bestWith_c350 : Cond.constant RX11 350 (1000000) ∈ wsX11_bestWith := by decide +kernel
set_option maxHeartbeats 8000000 in
set_option maxRecDepth 100000 in
theorem c_X11_bestWith (l : Launch) (D : va_G) (cA : Nat → ClassId) (g : Nat → Nat) (sz : Nat) (h_t : Nat) (a_t : Nat → Nat) (o_t : Ob) (a_t_state : Nat → Nat) (o_t_state : Ob) (a_t_state_wares : Nat → Nat) (o_t_state_wares : Ob) (a_t_state_shelf : Nat → Nat) (o_t_state_shelf : Ob) (a_t_state_log : Nat → Nat) (o_t_state_log : Ob) (a_t_trialPlanner : Nat → Nat) (o_t_trialPlanner : Ob) (v1 : Int32) (o_t_trialPlanner' : Ob) (rv : Int32) (hF : f_X11_bestWith o_t_state_wares o_t_state_shelf o_t_state_log o_t_trialPlanner v1 = some (o_t_trialPlanner', rv)) : Met l yX11_bestWith wsX11_bestWith ({ frames := 4, cells := 0, slots := 0, locals := 97 }) (va_Pc [.ref h_t, .int v1] (PreW D cA g sz (w_X11_trialLeast cA h_t a_t o_t a_t_state o_t_state a_t_state_wares o_t_state_wares a_t_state_shelf o_t_state_shelf a_t_state_log o_t_state_log a_t_trialPlanner o_t_trialPlanner))) (va_Qi (fun (r : Int32) (_ : Unit) => r = rv) (PostW D cA sz (w_X11_trialLeast cA h_t a_t o_t a_t_state o_t_state a_t_state_wares o_t_state_wares a_t_state_shelf o_t_state_shelf a_t_state_log o_t_state_log a_t_trialPlanner o_t_trialPlanner) (w_X11_trialLeast cA h_t a_t o_t a_t_state o_t_state a_t_state_wares o_t_state_wares a_t_state_shelf o_t_state_shelf a_t_state_log o_t_state_log a_t_trialPlanner o_t_trialPlanner')) (va_A (w_X11_trialLeast cA h_t a_t o_t a_t_state o_t_state a_t_state_wares o_t_state_wares a_t_state_shelf o_t_state_shelf a_t_state_log o_t_state_log a_t_trialPlanner o_t_trialPlanner) sz)) 0 0 (va_A (w_X11_trialLeast cA h_t a_t o_t a_t_state o_t_state a_t_state_wares o_t_state_wares a_t_state_shelf o_t_state_shelf a_t_state_log o_t_state_log a_t_trialPlanner o_t_trialPlanner) sz) := by
  refine z_start (cc := cX11_bestWith) (maxL := 3) (ret := (some .int)) (lv0 := [(0, .ref h_t), (1, .int v1)]) (Qc := fun sz => va_Qi (fun (r : Int32) (_ : Unit) => r = rv) (PostW D cA sz (w_X11_trialLeast cA h_t a_t o_t a_t_state o_t_state a_t_state_wares o_t_state_wares a_t_state_shelf o_t_state_shelf a_t_state_log o_t_state_log a_t_trialPlanner o_t_trialPlanner) (w_X11_trialLeast cA h_t a_t o_t a_t_state o_t_state a_t_state_wares o_t_state_wares a_t_state_shelf o_t_state_shelf a_t_state_log o_t_state_log a_t_trialPlanner o_t_trialPlanner')) (va_A (w_X11_trialLeast cA h_t a_t o_t a_t_state o_t_state a_t_state_wares o_t_state_wares a_t_state_shelf o_t_state_shelf a_t_state_log o_t_state_log a_t_trialPlanner o_t_trialPlanner) sz)) (free := fun sz => va_A (w_X11_trialLeast cA h_t a_t o_t a_t_state o_t_state a_t_state_wares o_t_state_wares a_t_state_shelf o_t_state_shelf a_t_state_log o_t_state_log a_t_trialPlanner o_t_trialPlanner) sz) (by decide +kernel) rfl rfl (Nat.le_of_ble_eq_true rfl) ?_
  intro p e R s m args below meth c A Q hR hA hQ X hr hin
  unfold f_X11_bestWith at hF
  refine z_aload_n X dX11_bestWith_0 rfl 0 rfl ?_
  refine z_get (v := .ref (a_t 2)) X k_X11_bestWith_26 0 rfl rfl dX11_bestWith_1 ?_
  refine z_get (v := .ref (a_t_state 0)) X k_X11_bestWith_127 2 rfl rfl dX11_bestWith_4 ?_
  refine z_iload_n X dX11_bestWith_7 rfl 1 rfl ?_
  obtain ⟨r1, hc2, hF⟩ := zb1_e hF
  refine z_Vi (As := [.int v1]) (rest := []) (wc := (w_X10_numberOf cA (a_t_state 0) a_t_state_wares o_t_state_wares)) (wc' := (w_X10_numberOf cA (a_t_state 0) a_t_state_wares o_t_state_wares)) (ws' := (w_X11_trialLeast cA h_t a_t o_t a_t_state o_t_state a_t_state_wares o_t_state_wares a_t_state_shelf o_t_state_shelf a_t_state_log o_t_state_log a_t_trialPlanner o_t_trialPlanner)) (rv := r1) X (cwV 1 X.2.2.2.2.1 gX11_bestWith_X10_has rfl rfl rfl (by decide +kernel) (by rw [hR]; exact ⟨Nat.le_of_ble_eq_true rfl, Nat.le_of_ble_eq_true rfl⟩)) (fun sz => c_X10_has l D cA g sz (a_t_state 0) a_t_state_wares o_t_state_wares v1 r1 hc2) [4, 5, 6, 7, 8] [0, 1, 2, 3, 1000, 1001, 1002, 1003, 1004, 9, 10, 11, 12, 13, 14, 15, 16, 17, 18, 19, 20, 21, 22, 23] rfl (by decide) rfl (by decide) rfl rfl rfl rfl rfl rfl (Nat.le_of_ble_eq_true rfl) dX11_bestWith_8 ⟨Nat.zero_le _, Nat.zero_le _⟩ ?_
  have hF := if_e hF
  refine z_if_eq (tgt := 27) X dX11_bestWith_11 (by decide) (fun c8 => ?_) (fun c8 => ?_)
  · have hF := hF.1 c8
    refine z_iconst (v := (-1 : Int32)) X dX11_bestWith_27 (by decide) ?_
    cases hF
    exact z_iret X hA hQ hr rfl dX11_bestWith_28 (Nat.le_refl _) (Nat.le_refl _)
  · have hF := hF.2 c8
    refine z_aload_n X dX11_bestWith_14 rfl 0 rfl ?_
    refine z_get (v := .ref (a_t 2)) X k_X11_bestWith_26 0 rfl rfl dX11_bestWith_15 ?_
    refine z_get (v := .ref (a_t_state 2)) X k_X11_bestWith_143 2 rfl rfl dX11_bestWith_18 ?_
    refine z_get (v := .int (o_t_state_log 0 0)) X k_X11_bestWith_175 13 rfl rfl dX11_bestWith_21 ?_
    have hF := if_e hF
    refine z_if_ne (tgt := 29) X dX11_bestWith_24 (by decide) (fun c7 => ?_) (fun c7 => ?_)
    · have hF := hF.2 c7
      refine z_aload_n X dX11_bestWith_29 rfl 0 rfl ?_
      refine z_aload_n X dX11_bestWith_30 rfl 0 rfl ?_
      refine z_get (v := .ref (a_t 2)) X k_X11_bestWith_26 0 rfl rfl dX11_bestWith_31 ?_
      refine z_get (v := .ref (a_t_state 1)) X k_X11_bestWith_160 2 rfl rfl dX11_bestWith_34 ?_
      refine z_get (v := .int (o_t_state_shelf 0 0)) X k_X11_bestWith_163 9 rfl rfl dX11_bestWith_37 ?_
      refine z_iload_n X dX11_bestWith_40 rfl 1 rfl ?_
      obtain ⟨o3, r4, hc5, hF⟩ := zb2_e hF
      refine z_Vi (As := [.int (o_t_state_shelf 0 0), .int v1]) (rest := []) (wc := (w_X11_trialLeast cA h_t a_t o_t a_t_state o_t_state a_t_state_wares o_t_state_wares a_t_state_shelf o_t_state_shelf a_t_state_log o_t_state_log a_t_trialPlanner o_t_trialPlanner)) (wc' := (w_X11_trialLeast cA h_t a_t o_t a_t_state o_t_state a_t_state_wares o_t_state_wares a_t_state_shelf o_t_state_shelf a_t_state_log o_t_state_log a_t_trialPlanner o3)) (ws' := (w_X11_trialLeast cA h_t a_t o_t a_t_state o_t_state a_t_state_wares o_t_state_wares a_t_state_shelf o_t_state_shelf a_t_state_log o_t_state_log a_t_trialPlanner o3)) (rv := r4) X (cwV 2 X.2.2.2.2.1 gX11_bestWith_X11_trialLeast rfl rfl rfl (by decide +kernel) (by rw [hR]; exact ⟨Nat.le_of_ble_eq_true rfl, Nat.le_of_ble_eq_true rfl⟩)) (fun sz => c_X11_trialLeast l D cA g sz h_t a_t o_t a_t_state o_t_state a_t_state_wares o_t_state_wares a_t_state_shelf o_t_state_shelf a_t_state_log o_t_state_log a_t_trialPlanner o_t_trialPlanner (o_t_state_shelf 0 0) v1 o3 r4 hc5) [0, 1, 2, 3, 4, 5, 6, 7, 8, 9, 10, 11, 12, 13, 14, 15, 16, 17, 18, 19, 20, 21, 22, 23] [1000, 1001, 1002, 1003, 1004, 1005, 1006, 1007, 1008, 1009, 1010, 1011, 1012, 1013, 1014, 1015, 1016, 1017, 1018, 1019, 1020, 1021, 1022, 1023] rfl (by decide) rfl (by decide) rfl rfl rfl rfl rfl rfl (Nat.le_of_ble_eq_true rfl) dX11_bestWith_41 ⟨Nat.zero_le _, Nat.zero_le _⟩ ?_
      refine z_istore_n (lv' := [(2, .int r4), (0, .ref h_t), (1, .int v1)]) X dX11_bestWith_44 rfl (by decide) rfl ?_
      refine z_iload_n X dX11_bestWith_45 rfl 0 rfl ?_
      refine z_ldcw X k_X11_bestWith_c350 dX11_bestWith_46 ?_
      have hF := if_e hF
      refine z_icmp_lt (tgt := 56) X dX11_bestWith_49 (by decide) (fun c6 => ?_) (fun c6 => ?_)
      · have hF := hF.1 c6
        refine z_iload_n X dX11_bestWith_56 rfl 0 rfl ?_
        cases hF
        exact z_iret X hA hQ hr rfl dX11_bestWith_57 (Nat.le_refl _) (Nat.le_refl _)
      · have hF := hF.2 c6
        refine z_iconst (v := (-1 : Int32)) X dX11_bestWith_52 (by decide) ?_
        refine z_goto (tgt := 57) X dX11_bestWith_53 (by decide) ?_
        cases hF
        exact z_iret X hA hQ hr rfl dX11_bestWith_57 (Nat.le_refl _) (Nat.le_refl _)
    · have hF := hF.1 c7
      refine z_iconst (v := (-1 : Int32)) X dX11_bestWith_27 (by decide) ?_
      cases hF
      exact z_iret X hA hQ hr rfl dX11_bestWith_28 (Nat.le_refl _) (Nat.le_refl _)
set_option maxRecDepth 20000 in
theorem h_X11_ratio_X11 : ∀ w ∈ wsX110, w ∈ wsX11_ratio := by decide +kernel
set_option maxRecDepth 20000 in
theorem k_X11_ratio_26 : ZF wsX11_ratio RX11 26 11 2 RX11 TX11 15 := ⟨rfl, by decide, h_X11_ratio_X11, by decide +kernel⟩
set_option maxRecDepth 20000 in
theorem h_X11_ratio_X9 : ∀ w ∈ wsX90, w ∈ wsX11_ratio := by decide +kernel
set_option maxRecDepth 20000 in
theorem k_X11_ratio_143 : ZF wsX11_ratio RX11 143 9 2 RX9 TX9 7 := ⟨rfl, by decide, h_X11_ratio_X9, by decide +kernel⟩
set_option maxRecDepth 20000 in
theorem h_X11_ratio_X4 : ∀ w ∈ wsX40, w ∈ wsX11_ratio := by decide +kernel
set_option maxRecDepth 20000 in
theorem k_X11_ratio_175 : ZF wsX11_ratio RX11 175 4 0 RX4 TX4 5 := ⟨rfl, by decide, h_X11_ratio_X4, by decide +kernel⟩
set_option maxRecDepth 20000 in
theorem k_X11_ratio_232 : ZF wsX11_ratio RX11 232 4 2 RX4 TX4 5 := ⟨rfl, by decide, h_X11_ratio_X4, by decide +kernel⟩
set_option maxHeartbeats 8000000 in
set_option maxRecDepth 100000 in
theorem c_X11_ratio (l : Launch) (D : va_G) (cA : Nat → ClassId) (g : Nat → Nat) (sz : Nat) (h_t : Nat) (a_t : Nat → Nat) (o_t : Ob) (a_t_state : Nat → Nat) (o_t_state : Ob) (a_t_state_wares : Nat → Nat) (o_t_state_wares : Ob) (a_t_state_shelf : Nat → Nat) (o_t_state_shelf : Ob) (a_t_state_log : Nat → Nat) (o_t_state_log : Ob) (a_t_planner : Nat → Nat) (o_t_planner : Ob)  (o_t_planner' : Ob) (rv : Int32) (hF : f_X11_ratio o_t_state_wares o_t_state_shelf o_t_state_log o_t_planner = some (o_t_planner', rv)) : Met l yX11_ratio wsX11_ratio ({ frames := 5, cells := 0, slots := 0, locals := 116 }) (va_Pc [.ref h_t] (PreW D cA g sz (w_X11_leastPaid cA h_t a_t o_t a_t_state o_t_state a_t_state_wares o_t_state_wares a_t_state_shelf o_t_state_shelf a_t_state_log o_t_state_log a_t_planner o_t_planner))) (va_Qi (fun (r : Int32) (_ : Unit) => r = rv) (PostW D cA sz (w_X11_leastPaid cA h_t a_t o_t a_t_state o_t_state a_t_state_wares o_t_state_wares a_t_state_shelf o_t_state_shelf a_t_state_log o_t_state_log a_t_planner o_t_planner) (w_X11_leastPaid cA h_t a_t o_t a_t_state o_t_state a_t_state_wares o_t_state_wares a_t_state_shelf o_t_state_shelf a_t_state_log o_t_state_log a_t_planner o_t_planner')) (va_A (w_X11_leastPaid cA h_t a_t o_t a_t_state o_t_state a_t_state_wares o_t_state_wares a_t_state_shelf o_t_state_shelf a_t_state_log o_t_state_log a_t_planner o_t_planner) sz)) 0 0 (va_A (w_X11_leastPaid cA h_t a_t o_t a_t_state o_t_state a_t_state_wares o_t_state_wares a_t_state_shelf o_t_state_shelf a_t_state_log o_t_state_log a_t_planner o_t_planner) sz) := by
  refine z_start (cc := cX11_ratio) (maxL := 4) (ret := (some .int)) (lv0 := [(0, .ref h_t)]) (Qc := fun sz => va_Qi (fun (r : Int32) (_ : Unit) => r = rv) (PostW D cA sz (w_X11_leastPaid cA h_t a_t o_t a_t_state o_t_state a_t_state_wares o_t_state_wares a_t_state_shelf o_t_state_shelf a_t_state_log o_t_state_log a_t_planner o_t_planner) (w_X11_leastPaid cA h_t a_t o_t a_t_state o_t_state a_t_state_wares o_t_state_wares a_t_state_shelf o_t_state_shelf a_t_state_log o_t_state_log a_t_planner o_t_planner')) (va_A (w_X11_leastPaid cA h_t a_t o_t a_t_state o_t_state a_t_state_wares o_t_state_wares a_t_state_shelf o_t_state_shelf a_t_state_log o_t_state_log a_t_planner o_t_planner) sz)) (free := fun sz => va_A (w_X11_leastPaid cA h_t a_t o_t a_t_state o_t_state a_t_state_wares o_t_state_wares a_t_state_shelf o_t_state_shelf a_t_state_log o_t_state_log a_t_planner o_t_planner) sz) (by decide +kernel) rfl rfl (Nat.le_of_ble_eq_true rfl) ?_
  intro p e R s m args below meth c A Q hR hA hQ X hr hin
  unfold f_X11_ratio at hF
  refine z_aload_n X dX11_ratio_0 rfl 0 rfl ?_
  obtain ⟨o1, r2, hc3, hF⟩ := zb2_e hF
  refine z_Vi (As := []) (rest := []) (wc := (w_X11_leastPaid cA h_t a_t o_t a_t_state o_t_state a_t_state_wares o_t_state_wares a_t_state_shelf o_t_state_shelf a_t_state_log o_t_state_log a_t_planner o_t_planner)) (wc' := (w_X11_leastPaid cA h_t a_t o_t a_t_state o_t_state a_t_state_wares o_t_state_wares a_t_state_shelf o_t_state_shelf a_t_state_log o_t_state_log a_t_planner o1)) (ws' := (w_X11_leastPaid cA h_t a_t o_t a_t_state o_t_state a_t_state_wares o_t_state_wares a_t_state_shelf o_t_state_shelf a_t_state_log o_t_state_log a_t_planner o1)) (rv := r2) X (cwV 0 X.2.2.2.2.1 gX11_ratio_X11_best rfl rfl rfl (by decide +kernel) (by rw [hR]; exact ⟨Nat.le_of_ble_eq_true rfl, Nat.le_of_ble_eq_true rfl⟩)) (fun sz => c_X11_best l D cA g sz h_t a_t o_t a_t_state o_t_state a_t_state_wares o_t_state_wares a_t_state_shelf o_t_state_shelf a_t_state_log o_t_state_log a_t_planner o_t_planner o1 r2 hc3) [0, 1, 2, 3, 4, 5, 6, 7, 8, 9, 10, 11, 12, 13, 14, 15, 16, 17, 18, 19, 20, 21, 22, 23] [1000, 1001, 1002, 1003, 1004, 1005, 1006, 1007, 1008, 1009, 1010, 1011, 1012, 1013, 1014, 1015, 1016, 1017, 1018, 1019, 1020, 1021, 1022, 1023] rfl (by decide) rfl (by decide) rfl rfl rfl rfl rfl rfl (Nat.le_of_ble_eq_true rfl) dX11_ratio_1 ⟨Nat.zero_le _, Nat.zero_le _⟩ ?_
  refine z_istore_n (lv' := [(1, .int r2), (0, .ref h_t)]) X dX11_ratio_4 rfl (by decide) rfl ?_
  refine z_iload_n X dX11_ratio_5 rfl 0 rfl ?_
  refine z_iconst (v := (1 : Int32)) X dX11_ratio_6 (by decide) ?_
  have hF := if_e hF
  refine z_icmp_ge (tgt := 12) X dX11_ratio_7 (by decide) (fun c41 => ?_) (fun c41 => ?_)
  · have hF := hF.1 c41
    refine z_iconst (v := (0 : Int32)) X dX11_ratio_12 (by decide) ?_
    refine z_istore_n (lv' := [(2, .int (0 : Int32)), (1, .int r2), (0, .ref h_t)]) X dX11_ratio_13 rfl (by decide) rfl ?_
    refine z_iconst (v := (0 : Int32)) X dX11_ratio_14 (by decide) ?_
    refine z_istore_n (lv' := [(3, .int (0 : Int32)), (2, .int (0 : Int32)), (1, .int r2), (0, .ref h_t)]) X dX11_ratio_15 rfl (by decide) rfl ?_
    obtain ⟨k30, hL, hF⟩ := zb1_e hF
    have L34_x : ∀ (k30' : Int32), k30' = k30 → ZW p l e R s m args below meth c D A 4 0 0 Q (w_X11_leastPaid cA h_t a_t o_t a_t_state o_t_state a_t_state_wares o_t_state_wares a_t_state_shelf o_t_state_shelf a_t_state_log o_t_state_log a_t_planner o1) [(1, .int r2), (2, .int k30')] 51 [] := by
      intro k30' hz
      cases hz
      refine z_iload_n X dX11_ratio_51 rfl 1 rfl ?_
      refine z_i2f X dX11_ratio_52 ?_
      refine z_iload_n X dX11_ratio_53 rfl 0 rfl ?_
      refine z_i2f X dX11_ratio_54 ?_
      obtain ⟨g31, hF⟩ := gq_e hF
      refine z_fdiv X g31 dX11_ratio_55 ?_
      obtain ⟨r32, hc33, hF⟩ := zb1_e hF
      refine z_Si (As := [.float (FP.fdiv (FP.i2f k30) (FP.i2f r2))]) (rest := []) (wc := ([] : va_W)) (wc' := ([] : va_W)) (ws' := (w_X11_leastPaid cA h_t a_t o_t a_t_state o_t_state a_t_state_wares o_t_state_wares a_t_state_shelf o_t_state_shelf a_t_state_log o_t_state_log a_t_planner o1)) (rv := r32) X (va_cwS 1 X.2.2.2.2.1 gX11_ratio_X11_floatBits rfl rfl rfl (by decide +kernel) (by rw [hR]; exact ⟨Nat.le_of_ble_eq_true rfl, Nat.le_of_ble_eq_true rfl⟩)) (fun sz => c_X11_floatBits l D cA g sz (FP.fdiv (FP.i2f k30) (FP.i2f r2)) r32 hc33) [] [0, 1, 2, 3, 4, 5, 6, 7, 8, 9, 10, 11, 12, 13, 14, 15, 16, 17, 18, 19, 20, 21, 22, 23] rfl (by decide) rfl (by decide) rfl rfl rfl (Nat.le_of_ble_eq_true rfl) dX11_ratio_56 ⟨Nat.zero_le _, Nat.zero_le _⟩ ?_
      cases hF
      exact z_iret X hA hQ hr rfl dX11_ratio_59 (Nat.le_refl _) (Nat.le_refl _)
    obtain ⟨B40, hBB40, hL⟩ := zl2_b hL
    have L34 : ∀ (n : Nat) (k28 : Int32) (k29 : Int32), zl2 B40 n k28 k29 = some k30 → ZW p l e R s m args below meth c D A 4 0 0 Q (w_X11_leastPaid cA h_t a_t o_t a_t_state o_t_state a_t_state_wares o_t_state_wares a_t_state_shelf o_t_state_shelf a_t_state_log o_t_state_log a_t_planner o1) [(0, .ref h_t), (1, .int r2), (2, .int k28), (3, .int k29)] 16 [] := by
      intro n
      induction n with
      | zero => intro k28 k29 hL; cases hL
      | succ n ih =>
        intro k28 k29 hL
        obtain ⟨zz35, hF, hL⟩ := zl2_e hL
        rw [hBB40] at hF
        refine z_iload_n X dX11_ratio_16 rfl 3 rfl ?_
        refine z_aload_n X dX11_ratio_17 rfl 0 rfl ?_
        refine z_get (v := .ref (a_t 2)) X k_X11_ratio_26 0 rfl rfl dX11_ratio_18 ?_
        refine z_get (v := .ref (a_t_state 2)) X k_X11_ratio_143 2 rfl rfl dX11_ratio_21 ?_
        refine z_get (v := .int (o_t_state_log 0 0)) X k_X11_ratio_175 13 rfl rfl dX11_ratio_24 ?_
        have hF := if_e hF
        refine z_icmp_ge (tgt := 51) X dX11_ratio_27 (by decide) (fun c39 => ?_) (fun c39 => ?_)
        · have hF := hF.1 c39
          cases hF
          have hL := Option.some.inj hL
          refine z_lv (lv' := [(1, .int r2), (2, .int k28)]) [1, 2] rfl ?_
          exact L34_x k28 hL
        · have hF := hF.2 c39
          refine z_iload_n X dX11_ratio_30 rfl 2 rfl ?_
          refine z_aload_n X dX11_ratio_31 rfl 0 rfl ?_
          refine z_get (v := .ref (a_t 2)) X k_X11_ratio_26 0 rfl rfl dX11_ratio_32 ?_
          refine z_get (v := .ref (a_t_state 2)) X k_X11_ratio_143 2 rfl rfl dX11_ratio_35 ?_
          refine z_get (v := .ref (a_t_state_log 2)) X k_X11_ratio_232 13 rfl rfl dX11_ratio_38 ?_
          refine z_iload_n X dX11_ratio_41 rfl 3 rfl ?_
          obtain ⟨g36, hF⟩ := gi_e hF
          refine z_iald X 15 rfl g36 dX11_ratio_42 ?_
          refine z_iadd X dX11_ratio_43 ?_
          obtain ⟨x37, ex37, hF⟩ := nx_e hF
          refine z_nm ex37 ?_
          refine z_istore_n (lv' := [(2, .int x37), (0, .ref h_t), (1, .int r2), (3, .int k29)]) X dX11_ratio_44 rfl (by decide) rfl ?_
          obtain ⟨x38, ex38, hF⟩ := nx_e hF
          refine z_iinc (v := x38) (lv' := [(3, .int x38), (2, .int x37), (0, .ref h_t), (1, .int r2)]) (j := 3) X dX11_ratio_45 rfl (by rw [ex38]; rfl) (by decide) rfl ?_
          refine z_goto (tgt := 16) X dX11_ratio_48 (by decide) ?_
          cases hF
          refine z_lv (lv' := [(0, .ref h_t), (1, .int r2), (2, .int x37), (3, .int x38)]) [2, 3, 1, 0] rfl ?_
          exact ih x37 x38 hL
    refine z_lv (lv' := [(0, .ref h_t), (1, .int r2), (2, .int (0 : Int32)), (3, .int (0 : Int32))]) [3, 2, 1, 0] rfl ?_
    exact L34 FU (0 : Int32) (0 : Int32) hL
  · have hF := hF.2 c41
    refine z_iconst (v := (-1 : Int32)) X dX11_ratio_10 (by decide) ?_
    cases hF
    exact z_iret X hA hQ hr rfl dX11_ratio_11 (Nat.le_refl _) (Nat.le_refl _)
abbrev w_X11_soon (cA : Nat → ClassId) (h_t : Nat) (a_t : Nat → Nat) (o_t : Ob) (a_t_state : Nat → Nat) (o_t_state : Ob) (a_t_state_wares : Nat → Nat) (o_t_state_wares : Ob) (a_t_state_shelf : Nat → Nat) (o_t_state_shelf : Ob) (a_t_deeds : Nat → Nat) (o_t_deeds : Ob) (a_t_trial : Nat → Nat) (o_t_trial : Ob) : va_W := [(h_t, .inr (11, [.ref (a_t 0), .ref (a_t 1), .ref (a_t 2), .ref (a_t 3), .ref (a_t 4), .ref (a_t 5), .ref (a_t 6), .ref (a_t 7), .ref (a_t 8), .ref (a_t 9), .ref (a_t 10), .ref (a_t 11), .ref (a_t 12), .int (o_t 13 0), .int (o_t 14 0)])), (a_t 12, .inl (cA 0, 20, .inl (o_t 12))), ((a_t 2), .inr (9, [.ref (a_t_state 0), .ref (a_t_state 1), .ref (a_t_state 2), .ref (a_t_state 3), .int (o_t_state 4 0), .int (o_t_state 5 0), .int (o_t_state 6 0)])), (a_t_state 3, .inl (cA 4, 3, .inr (.inr (.inr (.inr (bk (a_t_state 20) (a_t_state 21) (a_t_state 22))))))), ((a_t_state 0), .inr (10, [.int (o_t_state_wares 0 0), .ref (a_t_state_wares 1), .ref (a_t_state_wares 2), .ref (a_t_state_wares 3), .ref (a_t_state_wares 4)])), (a_t_state_wares 1, .inl (cA 0, 8, .inl (o_t_state_wares 1))), (a_t_state_wares 2, .inl (cA 0, 8, .inl (o_t_state_wares 2))), (a_t_state_wares 3, .inl (cA 0, 8, .inl (o_t_state_wares 3))), (a_t_state_wares 4, .inl (cA 0, 8, .inl (o_t_state_wares 4))), ((a_t_state 1), .inr (8, [.int (o_t_state_shelf 0 0), .int (o_t_state_shelf 1 0), .int (o_t_state_shelf 2 0), .int (o_t_state_shelf 3 0), .ref (a_t_state_shelf 4), .ref (a_t_state_shelf 5), .ref (a_t_state_shelf 6)])), (a_t_state_shelf 4, .inl (cA 0, 8, .inl (o_t_state_shelf 4))), (a_t_state_shelf 5, .inl (cA 0, 8, .inl (o_t_state_shelf 5))), (a_t_state_shelf 6, .inl (cA 1, 8, .inr (.inr (.inl (fun j => (o_t_state_shelf 6 j).toUInt32))))), ((a_t 6), .inr (1, [.int (o_t_deeds 0 0), .ref (a_t_deeds 1), .ref (a_t_deeds 2), .ref (a_t_deeds 3)])), (a_t_deeds 1, .inl (cA 0, 9, .inl (o_t_deeds 1))), (a_t_deeds 2, .inl (cA 0, 9, .inl (o_t_deeds 2))), (a_t_deeds 3, .inl (cA 0, 9, .inl (o_t_deeds 3))), ((a_t 7), .inr (8, [.int (o_t_trial 0 0), .int (o_t_trial 1 0), .int (o_t_trial 2 0), .int (o_t_trial 3 0), .ref (a_t_trial 4), .ref (a_t_trial 5), .ref (a_t_trial 6)])), (a_t_trial 4, .inl (cA 0, 8, .inl (o_t_trial 4))), (a_t_trial 5, .inl (cA 0, 8, .inl (o_t_trial 5))), (a_t_trial 6, .inl (cA 1, 8, .inr (.inr (.inl (fun j => (o_t_trial 6 j).toUInt32)))))]
set_option maxRecDepth 20000 in
theorem h_X11_soon_X11 : ∀ w ∈ wsX110, w ∈ wsX11_soon := by decide +kernel
set_option maxRecDepth 20000 in
theorem k_X11_soon_26 : ZF wsX11_soon RX11 26 11 2 RX11 TX11 15 := ⟨rfl, by decide, h_X11_soon_X11, by decide +kernel⟩
set_option maxRecDepth 20000 in
theorem k_X11_soon_51 : ZF wsX11_soon RX11 51 11 6 RX11 TX11 15 := ⟨rfl, by decide, h_X11_soon_X11, by decide +kernel⟩
set_option maxRecDepth 20000 in
theorem k_X11_soon_58 : ZF wsX11_soon RX11 58 11 7 RX11 TX11 15 := ⟨rfl, by decide, h_X11_soon_X11, by decide +kernel⟩
set_option maxRecDepth 20000 in
theorem h_X11_soon_X9 : ∀ w ∈ wsX90, w ∈ wsX11_soon := by decide +kernel
set_option maxRecDepth 20000 in
theorem k_X11_soon_127 : ZF wsX11_soon RX11 127 9 0 RX9 TX9 7 := ⟨rfl, by decide, h_X11_soon_X9, by decide +kernel⟩
set_option maxRecDepth 20000 in
theorem k_X11_soon_160 : ZF wsX11_soon RX11 160 9 1 RX9 TX9 7 := ⟨rfl, by decide, h_X11_soon_X9, by decide +kernel⟩
set_option maxRecDepth 20000 in
theorem h_X11_soon_X1 : ∀ w ∈ wsX10, w ∈ wsX11_soon := by decide +kernel
set_option maxRecDepth 20000 in
theorem k_X11_soon_358 : ZF wsX11_soon RX11 358 1 0 RX1 TX1 4 := ⟨rfl, by decide, h_X11_soon_X1, by decide +kernel⟩
set_option maxHeartbeats 8000000 in
set_option maxRecDepth 100000 in
theorem c_X11_soon (l : Launch) (D : va_G) (cA : Nat → ClassId) (g : Nat → Nat) (sz : Nat) (h_t : Nat) (a_t : Nat → Nat) (o_t : Ob) (a_t_state : Nat → Nat) (o_t_state : Ob) (a_t_state_wares : Nat → Nat) (o_t_state_wares : Ob) (a_t_state_shelf : Nat → Nat) (o_t_state_shelf : Ob) (a_t_deeds : Nat → Nat) (o_t_deeds : Ob) (a_t_trial : Nat → Nat) (o_t_trial : Ob) (v1 : Int32) (o_t_deeds' : Ob) (o_t_trial' : Ob) (rv : Int32) (hF : f_X11_soon o_t_state_wares o_t_state_shelf o_t_deeds o_t_trial v1 = some (o_t_deeds', o_t_trial', rv)) : Met l yX11_soon wsX11_soon ({ frames := 4, cells := 0, slots := 0, locals := 96 }) (va_Pc [.ref h_t, .int v1] (PreW D cA g sz (w_X11_soon cA h_t a_t o_t a_t_state o_t_state a_t_state_wares o_t_state_wares a_t_state_shelf o_t_state_shelf a_t_deeds o_t_deeds a_t_trial o_t_trial))) (va_Qi (fun (r : Int32) (_ : Unit) => r = rv) (PostW D cA sz (w_X11_soon cA h_t a_t o_t a_t_state o_t_state a_t_state_wares o_t_state_wares a_t_state_shelf o_t_state_shelf a_t_deeds o_t_deeds a_t_trial o_t_trial) (w_X11_soon cA h_t a_t o_t a_t_state o_t_state a_t_state_wares o_t_state_wares a_t_state_shelf o_t_state_shelf a_t_deeds o_t_deeds' a_t_trial o_t_trial')) (va_A (w_X11_soon cA h_t a_t o_t a_t_state o_t_state a_t_state_wares o_t_state_wares a_t_state_shelf o_t_state_shelf a_t_deeds o_t_deeds a_t_trial o_t_trial) sz)) 0 0 (va_A (w_X11_soon cA h_t a_t o_t a_t_state o_t_state a_t_state_wares o_t_state_wares a_t_state_shelf o_t_state_shelf a_t_deeds o_t_deeds a_t_trial o_t_trial) sz) := by
  refine z_start (cc := cX11_soon) (maxL := 3) (ret := (some .int)) (lv0 := [(0, .ref h_t), (1, .int v1)]) (Qc := fun sz => va_Qi (fun (r : Int32) (_ : Unit) => r = rv) (PostW D cA sz (w_X11_soon cA h_t a_t o_t a_t_state o_t_state a_t_state_wares o_t_state_wares a_t_state_shelf o_t_state_shelf a_t_deeds o_t_deeds a_t_trial o_t_trial) (w_X11_soon cA h_t a_t o_t a_t_state o_t_state a_t_state_wares o_t_state_wares a_t_state_shelf o_t_state_shelf a_t_deeds o_t_deeds' a_t_trial o_t_trial')) (va_A (w_X11_soon cA h_t a_t o_t a_t_state o_t_state a_t_state_wares o_t_state_wares a_t_state_shelf o_t_state_shelf a_t_deeds o_t_deeds a_t_trial o_t_trial) sz)) (free := fun sz => va_A (w_X11_soon cA h_t a_t o_t a_t_state o_t_state a_t_state_wares o_t_state_wares a_t_state_shelf o_t_state_shelf a_t_deeds o_t_deeds a_t_trial o_t_trial) sz) (by decide +kernel) rfl rfl (Nat.le_of_ble_eq_true rfl) ?_
  intro p e R s m args below meth c A Q hR hA hQ X hr hin
  unfold f_X11_soon at hF
  refine z_aload_n X dX11_soon_0 rfl 0 rfl ?_
  refine z_get (v := .ref (a_t 2)) X k_X11_soon_26 0 rfl rfl dX11_soon_1 ?_
  refine z_get (v := .ref (a_t_state 0)) X k_X11_soon_127 2 rfl rfl dX11_soon_4 ?_
  refine z_iload_n X dX11_soon_7 rfl 1 rfl ?_
  obtain ⟨r1, hc2, hF⟩ := zb1_e hF
  refine z_Vi (As := [.int v1]) (rest := []) (wc := (w_X10_numberOf cA (a_t_state 0) a_t_state_wares o_t_state_wares)) (wc' := (w_X10_numberOf cA (a_t_state 0) a_t_state_wares o_t_state_wares)) (ws' := (w_X11_soon cA h_t a_t o_t a_t_state o_t_state a_t_state_wares o_t_state_wares a_t_state_shelf o_t_state_shelf a_t_deeds o_t_deeds a_t_trial o_t_trial)) (rv := r1) X (cwV 1 X.2.2.2.2.1 gX11_soon_X10_has rfl rfl rfl (by decide +kernel) (by rw [hR]; exact ⟨Nat.le_of_ble_eq_true rfl, Nat.le_of_ble_eq_true rfl⟩)) (fun sz => c_X10_has l D cA g sz (a_t_state 0) a_t_state_wares o_t_state_wares v1 r1 hc2) [4, 5, 6, 7, 8] [0, 1, 2, 3, 1000, 1001, 1002, 1003, 1004, 9, 10, 11, 12, 13, 14, 15, 16, 17, 18, 19, 20] rfl (by decide) rfl (by decide) rfl rfl rfl rfl rfl rfl (Nat.le_of_ble_eq_true rfl) dX11_soon_8 ⟨Nat.zero_le _, Nat.zero_le _⟩ ?_
  have hF := if_e hF
  refine z_if_ne (tgt := 16) X dX11_soon_11 (by decide) (fun c53 => ?_) (fun c53 => ?_)
  · have hF := hF.2 c53
    refine z_aload_n X dX11_soon_16 rfl 0 rfl ?_
    refine z_get (v := .ref (a_t 7)) X k_X11_soon_58 0 rfl rfl dX11_soon_17 ?_
    refine z_aload_n X dX11_soon_20 rfl 0 rfl ?_
    refine z_get (v := .ref (a_t 2)) X k_X11_soon_26 0 rfl rfl dX11_soon_21 ?_
    refine z_get (v := .ref (a_t_state 1)) X k_X11_soon_160 2 rfl rfl dX11_soon_24 ?_
    obtain ⟨o3, hc4, hF⟩ := zb1_e hF
    refine z_Vv (As := [.ref (a_t_state 1)]) (rest := []) (wc := (w_X8_copyFrom cA (a_t 7) a_t_trial o_t_trial (a_t_state 1) a_t_state_shelf o_t_state_shelf)) (wc' := (w_X8_copyFrom cA (a_t 7) a_t_trial o3 (a_t_state 1) a_t_state_shelf o_t_state_shelf)) (ws' := (w_X11_soon cA h_t a_t o_t a_t_state o_t_state a_t_state_wares o_t_state_wares a_t_state_shelf o_t_state_shelf a_t_deeds o_t_deeds a_t_trial o3)) X (cwV 1 X.2.2.2.2.1 gX11_soon_X8_copyFrom rfl rfl rfl (by decide +kernel) (by rw [hR]; exact ⟨Nat.le_of_ble_eq_true rfl, Nat.le_of_ble_eq_true rfl⟩)) (fun sz => c_X8_copyFrom l D cA g sz (a_t 7) a_t_trial o_t_trial (a_t_state 1) a_t_state_shelf o_t_state_shelf o3 hc4) [17, 18, 19, 20, 9, 10, 11, 12] [0, 1, 2, 3, 4, 5, 6, 7, 8, 1004, 1005, 1006, 1007, 13, 14, 15, 16, 1000, 1001, 1002, 1003] rfl (by decide) rfl (by decide) rfl rfl rfl rfl rfl rfl (Nat.le_of_ble_eq_true rfl) dX11_soon_27 ⟨Nat.zero_le _, Nat.zero_le _⟩ ?_
    refine z_iconst (v := (0 : Int32)) X dX11_soon_30 (by decide) ?_
    refine z_istore_n (lv' := [(2, .int (0 : Int32)), (0, .ref h_t), (1, .int v1)]) X dX11_soon_31 rfl (by decide) rfl ?_
    obtain ⟨z51, hL, hFx, L39_r⟩ := ze2_e hF
    have L39_x : ∀ (o37 : Ob) (o38 : Ob), z51 = .inl (o37, o38) → ZW p l e R s m args below meth c D A 3 0 0 Q (w_X11_soon cA h_t a_t o_t a_t_state o_t_state a_t_state_wares o_t_state_wares a_t_state_shelf o_t_state_shelf a_t_deeds o37 a_t_trial o38) [] 85 [] := by
      intro o37 o38 hz
      have hF := hFx o37 o38 hz
      refine z_iconst (v := (-1 : Int32)) X dX11_soon_85 (by decide) ?_
      cases hF
      exact z_iret X hA hQ hr rfl dX11_soon_86 (Nat.le_refl _) (Nat.le_refl _)
    obtain ⟨B52, hBB52, hL⟩ := zl3_b hL
    have L39 : ∀ (n : Nat) (o34 : Ob) (o35 : Ob) (k36 : Int32), zl3 B52 n o34 o35 k36 = some z51 → ZW p l e R s m args below meth c D A 3 0 0 Q (w_X11_soon cA h_t a_t o_t a_t_state o_t_state a_t_state_wares o_t_state_wares a_t_state_shelf o_t_state_shelf a_t_deeds o34 a_t_trial o35) [(0, .ref h_t), (1, .int v1), (2, .int k36)] 32 [] := by
      intro n
      induction n with
      | zero => intro o34 o35 k36 hL; cases hL
      | succ n ih =>
        intro o34 o35 k36 hL
        obtain ⟨zz40, hF, hL⟩ := zl3_e hL
        rw [hBB52] at hF
        refine z_iload_n X dX11_soon_32 rfl 2 rfl ?_
        refine z_bipush (v := (40 : Int32)) X dX11_soon_33 (by decide) ?_
        have hF := if_e hF
        refine z_icmp_gt (tgt := 85) X dX11_soon_35 (by decide) (fun c50 => ?_) (fun c50 => ?_)
        · have hF := hF.1 c50
          cases hF
          have hL := Option.some.inj hL
          refine z_lv (lv' := []) [] rfl ?_
          exact L39_x o34 o35 hL.symm
        · have hF := hF.2 c50
          refine z_aload_n X dX11_soon_38 rfl 0 rfl ?_
          refine z_get (v := .ref (a_t 7)) X k_X11_soon_58 0 rfl rfl dX11_soon_39 ?_
          refine z_iload_n X dX11_soon_42 rfl 1 rfl ?_
          obtain ⟨r41, hc42, hF⟩ := zb1_e hF
          refine z_Vi (As := [.int v1]) (rest := []) (wc := (w_X8_begin cA (a_t 7) a_t_trial o35)) (wc' := (w_X8_begin cA (a_t 7) a_t_trial o35)) (ws' := (w_X11_soon cA h_t a_t o_t a_t_state o_t_state a_t_state_wares o_t_state_wares a_t_state_shelf o_t_state_shelf a_t_deeds o34 a_t_trial o35)) (rv := r41) X (cwV 1 X.2.2.2.2.1 gX11_soon_X8_holds rfl rfl rfl (by decide +kernel) (by rw [hR]; exact ⟨Nat.le_of_ble_eq_true rfl, Nat.le_of_ble_eq_true rfl⟩)) (fun sz => c_X8_holds l D cA g sz (a_t 7) a_t_trial o35 v1 r41 hc42) [17, 18, 19, 20] [0, 1, 2, 3, 4, 5, 6, 7, 8, 9, 10, 11, 12, 13, 14, 15, 16, 1000, 1001, 1002, 1003] rfl (by decide) rfl (by decide) rfl rfl rfl rfl rfl rfl (Nat.le_of_ble_eq_true rfl) dX11_soon_43 ⟨Nat.zero_le _, Nat.zero_le _⟩ ?_
          have hF := if_e hF
          refine z_if_eq (tgt := 51) X dX11_soon_46 (by decide) (fun c49 => ?_) (fun c49 => ?_)
          · have hF := hF.1 c49
            refine z_aload_n X dX11_soon_51 rfl 0 rfl ?_
            refine z_get (v := .ref (a_t 6)) X k_X11_soon_51 0 rfl rfl dX11_soon_52 ?_
            refine z_iconst (v := (0 : Int32)) X dX11_soon_55 (by decide) ?_
            obtain ⟨o43, eo43, hF⟩ := nx_e hF
            refine z_put (ws' := (w_X11_soon cA h_t a_t o_t a_t_state o_t_state a_t_state_wares o_t_state_wares a_t_state_shelf o_t_state_shelf a_t_deeds o43 a_t_trial o35)) X k_X11_soon_358 tyX1 tyX1_ok nmX1 rfl rfl 13 rfl (Nat.le_of_ble_eq_true rfl) (by rw [eo43]; rfl) dX11_soon_56 ?_
            refine z_aload_n X dX11_soon_59 rfl 0 rfl ?_
            refine z_get (v := .ref (a_t 7)) X k_X11_soon_58 0 rfl rfl dX11_soon_60 ?_
            refine z_aload_n X dX11_soon_63 rfl 0 rfl ?_
            refine z_get (v := .ref (a_t 2)) X k_X11_soon_26 0 rfl rfl dX11_soon_64 ?_
            refine z_get (v := .ref (a_t_state 0)) X k_X11_soon_127 2 rfl rfl dX11_soon_67 ?_
            refine z_iload_n X dX11_soon_70 rfl 1 rfl ?_
            refine z_aload_n X dX11_soon_71 rfl 0 rfl ?_
            refine z_get (v := .ref (a_t 6)) X k_X11_soon_51 0 rfl rfl dX11_soon_72 ?_
            obtain ⟨o44, o45, r46, hc47, hF⟩ := zb3_e hF
            refine z_Vi (As := [.ref (a_t_state 0), .int v1, .ref (a_t 6)]) (rest := []) (wc := (w_X8_lower cA (a_t 7) a_t_trial o35 (a_t_state 0) a_t_state_wares o_t_state_wares (a_t 6) a_t_deeds o43)) (wc' := (w_X8_lower cA (a_t 7) a_t_trial o44 (a_t_state 0) a_t_state_wares o_t_state_wares (a_t 6) a_t_deeds o45)) (ws' := (w_X11_soon cA h_t a_t o_t a_t_state o_t_state a_t_state_wares o_t_state_wares a_t_state_shelf o_t_state_shelf a_t_deeds o45 a_t_trial o44)) (rv := r46) X (cwV 3 X.2.2.2.2.1 gX11_soon_X8_serve rfl rfl rfl (by decide +kernel) (by rw [hR]; exact ⟨Nat.le_of_ble_eq_true rfl, Nat.le_of_ble_eq_true rfl⟩)) (fun sz => c_X8_serve l D cA g sz (a_t 7) a_t_trial o35 (a_t_state 0) a_t_state_wares o_t_state_wares (a_t 6) a_t_deeds o43 v1 o44 o45 r46 hc47) [17, 18, 19, 20, 4, 5, 6, 7, 8, 13, 14, 15, 16] [0, 1, 2, 3, 1004, 1005, 1006, 1007, 1008, 9, 10, 11, 12, 1009, 1010, 1011, 1012, 1000, 1001, 1002, 1003] rfl (by decide) rfl (by decide) rfl rfl rfl rfl rfl rfl (Nat.le_of_ble_eq_true rfl) dX11_soon_75 ⟨Nat.zero_le _, Nat.zero_le _⟩ ?_
            refine z_pop X dX11_soon_78 rfl ?_
            obtain ⟨x48, ex48, hF⟩ := nx_e hF
            refine z_iinc (v := x48) (lv' := [(2, .int x48), (0, .ref h_t), (1, .int v1)]) (j := 2) X dX11_soon_79 rfl (by rw [ex48]; rfl) (by decide) rfl ?_
            refine z_goto (tgt := 32) X dX11_soon_82 (by decide) ?_
            cases hF
            refine z_lv (lv' := [(0, .ref h_t), (1, .int v1), (2, .int x48)]) [1, 2, 0] rfl ?_
            exact ih o45 o44 x48 hL
          · have hF := hF.2 c49
            refine z_iload_n X dX11_soon_49 rfl 2 rfl ?_
            cases hF
            have hL := (Option.some.inj hL).symm
            have hF := L39_r _ hL
            cases hF
            exact z_iret X hA hQ hr rfl dX11_soon_50 (Nat.le_refl _) (Nat.le_refl _)
    refine z_lv (lv' := [(0, .ref h_t), (1, .int v1), (2, .int (0 : Int32))]) [1, 2, 0] rfl ?_
    exact L39 FU o_t_deeds o3 (0 : Int32) hL
  · have hF := hF.1 c53
    refine z_iconst (v := (-1 : Int32)) X dX11_soon_14 (by decide) ?_
    cases hF
    exact z_iret X hA hQ hr rfl dX11_soon_15 (Nat.le_refl _) (Nat.le_refl _)
set_option maxRecDepth 20000 in
theorem h_X11_victims_X11 : ∀ w ∈ wsX110, w ∈ wsX11_victims := by decide +kernel
set_option maxRecDepth 20000 in
theorem k_X11_victims_26 : ZF wsX11_victims RX11 26 11 2 RX11 TX11 15 := ⟨rfl, by decide, h_X11_victims_X11, by decide +kernel⟩
set_option maxRecDepth 20000 in
theorem k_X11_victims_51 : ZF wsX11_victims RX11 51 11 6 RX11 TX11 15 := ⟨rfl, by decide, h_X11_victims_X11, by decide +kernel⟩
set_option maxRecDepth 20000 in
theorem k_X11_victims_58 : ZF wsX11_victims RX11 58 11 7 RX11 TX11 15 := ⟨rfl, by decide, h_X11_victims_X11, by decide +kernel⟩
set_option maxRecDepth 20000 in
theorem h_X11_victims_X9 : ∀ w ∈ wsX90, w ∈ wsX11_victims := by decide +kernel
set_option maxRecDepth 20000 in
theorem k_X11_victims_127 : ZF wsX11_victims RX11 127 9 0 RX9 TX9 7 := ⟨rfl, by decide, h_X11_victims_X9, by decide +kernel⟩
set_option maxRecDepth 20000 in
theorem k_X11_victims_160 : ZF wsX11_victims RX11 160 9 1 RX9 TX9 7 := ⟨rfl, by decide, h_X11_victims_X9, by decide +kernel⟩
set_option maxRecDepth 20000 in
theorem h_X11_victims_X8 : ∀ w ∈ wsX80, w ∈ wsX11_victims := by decide +kernel
set_option maxRecDepth 20000 in
theorem k_X11_victims_163 : ZF wsX11_victims RX11 163 8 0 RX8 TX8 7 := ⟨rfl, by decide, h_X11_victims_X8, by decide +kernel⟩
set_option maxRecDepth 20000 in
theorem k_X11_victims_165 : ZF wsX11_victims RX11 165 8 2 RX8 TX8 7 := ⟨rfl, by decide, h_X11_victims_X8, by decide +kernel⟩
set_option maxRecDepth 20000 in
theorem h_X11_victims_X10 : ∀ w ∈ wsX100, w ∈ wsX11_victims := by decide +kernel
set_option maxRecDepth 20000 in
theorem k_X11_victims_185 : ZF wsX11_victims RX11 185 10 1 RX10 TX10 5 := ⟨rfl, by decide, h_X11_victims_X10, by decide +kernel⟩
set_option maxRecDepth 20000 in
theorem h_X11_victims_X1 : ∀ w ∈ wsX10, w ∈ wsX11_victims := by decide +kernel
set_option maxRecDepth 20000 in
theorem k_X11_victims_358 : ZF wsX11_victims RX11 358 1 0 RX1 TX1 4 := ⟨rfl, by decide, h_X11_victims_X1, by decide +kernel⟩
set_option maxHeartbeats 8000000 in
set_option maxRecDepth 100000 in
theorem c_X11_victims (l : Launch) (D : va_G) (cA : Nat → ClassId) (g : Nat → Nat) (sz : Nat) (h_t : Nat) (a_t : Nat → Nat) (o_t : Ob) (a_t_state : Nat → Nat) (o_t_state : Ob) (a_t_state_wares : Nat → Nat) (o_t_state_wares : Ob) (a_t_state_shelf : Nat → Nat) (o_t_state_shelf : Ob) (a_t_deeds : Nat → Nat) (o_t_deeds : Ob) (a_t_trial : Nat → Nat) (o_t_trial : Ob) (v1 : Int32) (o_t_deeds' : Ob) (o_t_trial' : Ob) (rv : Int32) (hF : f_X11_victims o_t_state_wares o_t_state_shelf o_t_deeds o_t_trial v1 = some (o_t_deeds', o_t_trial', rv)) : Met l yX11_victims wsX11_victims ({ frames := 3, cells := 0, slots := 0, locals := 71 }) (va_Pc [.ref h_t, .int v1] (PreW D cA g sz (w_X11_soon cA h_t a_t o_t a_t_state o_t_state a_t_state_wares o_t_state_wares a_t_state_shelf o_t_state_shelf a_t_deeds o_t_deeds a_t_trial o_t_trial))) (va_Qi (fun (r : Int32) (_ : Unit) => r = rv) (PostW D cA sz (w_X11_soon cA h_t a_t o_t a_t_state o_t_state a_t_state_wares o_t_state_wares a_t_state_shelf o_t_state_shelf a_t_deeds o_t_deeds a_t_trial o_t_trial) (w_X11_soon cA h_t a_t o_t a_t_state o_t_state a_t_state_wares o_t_state_wares a_t_state_shelf o_t_state_shelf a_t_deeds o_t_deeds' a_t_trial o_t_trial')) (va_A (w_X11_soon cA h_t a_t o_t a_t_state o_t_state a_t_state_wares o_t_state_wares a_t_state_shelf o_t_state_shelf a_t_deeds o_t_deeds a_t_trial o_t_trial) sz)) 0 0 (va_A (w_X11_soon cA h_t a_t o_t a_t_state o_t_state a_t_state_wares o_t_state_wares a_t_state_shelf o_t_state_shelf a_t_deeds o_t_deeds a_t_trial o_t_trial) sz) := by
  refine z_start (cc := cX11_victims) (maxL := 3) (ret := (some .int)) (lv0 := [(0, .ref h_t), (1, .int v1)]) (Qc := fun sz => va_Qi (fun (r : Int32) (_ : Unit) => r = rv) (PostW D cA sz (w_X11_soon cA h_t a_t o_t a_t_state o_t_state a_t_state_wares o_t_state_wares a_t_state_shelf o_t_state_shelf a_t_deeds o_t_deeds a_t_trial o_t_trial) (w_X11_soon cA h_t a_t o_t a_t_state o_t_state a_t_state_wares o_t_state_wares a_t_state_shelf o_t_state_shelf a_t_deeds o_t_deeds' a_t_trial o_t_trial')) (va_A (w_X11_soon cA h_t a_t o_t a_t_state o_t_state a_t_state_wares o_t_state_wares a_t_state_shelf o_t_state_shelf a_t_deeds o_t_deeds a_t_trial o_t_trial) sz)) (free := fun sz => va_A (w_X11_soon cA h_t a_t o_t a_t_state o_t_state a_t_state_wares o_t_state_wares a_t_state_shelf o_t_state_shelf a_t_deeds o_t_deeds a_t_trial o_t_trial) sz) (by decide +kernel) rfl rfl (Nat.le_of_ble_eq_true rfl) ?_
  intro p e R s m args below meth c A Q hR hA hQ X hr hin
  unfold f_X11_victims at hF
  refine z_aload_n X dX11_victims_0 rfl 0 rfl ?_
  refine z_get (v := .ref (a_t 2)) X k_X11_victims_26 0 rfl rfl dX11_victims_1 ?_
  refine z_get (v := .ref (a_t_state 1)) X k_X11_victims_160 2 rfl rfl dX11_victims_4 ?_
  refine z_astore_n (lv' := [(2, .ref (a_t_state 1)), (0, .ref h_t), (1, .int v1)]) X dX11_victims_7 rfl (by decide) rfl ?_
  refine z_aload_n X dX11_victims_8 rfl 1 rfl ?_
  refine z_get (v := .ref (a_t 2)) X k_X11_victims_26 0 rfl rfl dX11_victims_9 ?_
  refine z_get (v := .ref (a_t_state 0)) X k_X11_victims_127 2 rfl rfl dX11_victims_12 ?_
  refine z_iload_n X dX11_victims_15 rfl 2 rfl ?_
  obtain ⟨r1, hc2, hF⟩ := zb1_e hF
  refine z_Vi (As := [.int v1]) (rest := []) (wc := (w_X10_numberOf cA (a_t_state 0) a_t_state_wares o_t_state_wares)) (wc' := (w_X10_numberOf cA (a_t_state 0) a_t_state_wares o_t_state_wares)) (ws' := (w_X11_soon cA h_t a_t o_t a_t_state o_t_state a_t_state_wares o_t_state_wares a_t_state_shelf o_t_state_shelf a_t_deeds o_t_deeds a_t_trial o_t_trial)) (rv := r1) X (cwV 1 X.2.2.2.2.1 gX11_victims_X10_has rfl rfl rfl (by decide +kernel) (by rw [hR]; exact ⟨Nat.le_of_ble_eq_true rfl, Nat.le_of_ble_eq_true rfl⟩)) (fun sz => c_X10_has l D cA g sz (a_t_state 0) a_t_state_wares o_t_state_wares v1 r1 hc2) [4, 5, 6, 7, 8] [0, 1, 2, 3, 1000, 1001, 1002, 1003, 1004, 9, 10, 11, 12, 13, 14, 15, 16, 17, 18, 19, 20] rfl (by decide) rfl (by decide) rfl rfl rfl rfl rfl rfl (Nat.le_of_ble_eq_true rfl) dX11_victims_16 ⟨Nat.zero_le _, Nat.zero_le _⟩ ?_
  have hF := if_e hF
  refine z_if_eq (tgt := 49) X dX11_victims_19 (by decide) (fun c15 => ?_) (fun c15 => ?_)
  · have hF := hF.1 c15
    refine z_iconst (v := (-1 : Int32)) X dX11_victims_49 (by decide) ?_
    cases hF
    exact z_iret X hA hQ hr rfl dX11_victims_50 (Nat.le_refl _) (Nat.le_refl _)
  · have hF := hF.2 c15
    refine z_aload_n X dX11_victims_22 rfl 0 rfl ?_
    refine z_iload_n X dX11_victims_23 rfl 2 rfl ?_
    obtain ⟨r3, hc4, hF⟩ := zb1_e hF
    refine z_Vi (As := [.int v1]) (rest := []) (wc := (w_X8_begin cA (a_t_state 1) a_t_state_shelf o_t_state_shelf)) (wc' := (w_X8_begin cA (a_t_state 1) a_t_state_shelf o_t_state_shelf)) (ws' := (w_X11_soon cA h_t a_t o_t a_t_state o_t_state a_t_state_wares o_t_state_wares a_t_state_shelf o_t_state_shelf a_t_deeds o_t_deeds a_t_trial o_t_trial)) (rv := r3) X (cwV 1 X.2.2.2.2.1 gX11_victims_X8_holds rfl rfl rfl (by decide +kernel) (by rw [hR]; exact ⟨Nat.le_of_ble_eq_true rfl, Nat.le_of_ble_eq_true rfl⟩)) (fun sz => c_X8_holds l D cA g sz (a_t_state 1) a_t_state_shelf o_t_state_shelf v1 r3 hc4) [9, 10, 11, 12] [0, 1, 2, 3, 4, 5, 6, 7, 8, 1000, 1001, 1002, 1003, 13, 14, 15, 16, 17, 18, 19, 20] rfl (by decide) rfl (by decide) rfl rfl rfl rfl rfl rfl (Nat.le_of_ble_eq_true rfl) dX11_victims_24 ⟨Nat.zero_le _, Nat.zero_le _⟩ ?_
    have hF := if_e hF
    refine z_if_ne (tgt := 49) X dX11_victims_27 (by decide) (fun c14 => ?_) (fun c14 => ?_)
    · have hF := hF.2 c14
      refine z_iconst (v := (-1 : Int32)) X dX11_victims_49 (by decide) ?_
      cases hF
      exact z_iret X hA hQ hr rfl dX11_victims_50 (Nat.le_refl _) (Nat.le_refl _)
    · have hF := hF.1 c14
      refine z_aload_n X dX11_victims_30 rfl 1 rfl ?_
      refine z_get (v := .ref (a_t 2)) X k_X11_victims_26 0 rfl rfl dX11_victims_31 ?_
      refine z_get (v := .ref (a_t_state 0)) X k_X11_victims_127 2 rfl rfl dX11_victims_34 ?_
      refine z_get (v := .ref (a_t_state_wares 1)) X k_X11_victims_185 4 rfl rfl dX11_victims_37 ?_
      refine z_iload_n X dX11_victims_40 rfl 2 rfl ?_
      obtain ⟨g5, hF⟩ := gi_e hF
      refine z_iald X 5 rfl g5 dX11_victims_41 ?_
      refine z_aload_n X dX11_victims_42 rfl 0 rfl ?_
      refine z_get (v := .int (o_t_state_shelf 0 0)) X k_X11_victims_163 9 rfl rfl dX11_victims_43 ?_
      have hF := if_e hF
      refine z_icmp_le (tgt := 51) X dX11_victims_46 (by decide) (fun c13 => ?_) (fun c13 => ?_)
      · have hF := hF.1 c13
        refine z_aload_n X dX11_victims_51 rfl 1 rfl ?_
        refine z_get (v := .ref (a_t 7)) X k_X11_victims_58 0 rfl rfl dX11_victims_52 ?_
        refine z_aload_n X dX11_victims_55 rfl 0 rfl ?_
        obtain ⟨o6, hc7, hF⟩ := zb1_e hF
        refine z_Vv (As := [.ref (a_t_state 1)]) (rest := []) (wc := (w_X8_copyFrom cA (a_t 7) a_t_trial o_t_trial (a_t_state 1) a_t_state_shelf o_t_state_shelf)) (wc' := (w_X8_copyFrom cA (a_t 7) a_t_trial o6 (a_t_state 1) a_t_state_shelf o_t_state_shelf)) (ws' := (w_X11_soon cA h_t a_t o_t a_t_state o_t_state a_t_state_wares o_t_state_wares a_t_state_shelf o_t_state_shelf a_t_deeds o_t_deeds a_t_trial o6)) X (cwV 1 X.2.2.2.2.1 gX11_victims_X8_copyFrom rfl rfl rfl (by decide +kernel) (by rw [hR]; exact ⟨Nat.le_of_ble_eq_true rfl, Nat.le_of_ble_eq_true rfl⟩)) (fun sz => c_X8_copyFrom l D cA g sz (a_t 7) a_t_trial o_t_trial (a_t_state 1) a_t_state_shelf o_t_state_shelf o6 hc7) [17, 18, 19, 20, 9, 10, 11, 12] [0, 1, 2, 3, 4, 5, 6, 7, 8, 1004, 1005, 1006, 1007, 13, 14, 15, 16, 1000, 1001, 1002, 1003] rfl (by decide) rfl (by decide) rfl rfl rfl rfl rfl rfl (Nat.le_of_ble_eq_true rfl) dX11_victims_56 ⟨Nat.zero_le _, Nat.zero_le _⟩ ?_
        refine z_aload_n X dX11_victims_59 rfl 1 rfl ?_
        refine z_get (v := .ref (a_t 6)) X k_X11_victims_51 0 rfl rfl dX11_victims_60 ?_
        refine z_iconst (v := (0 : Int32)) X dX11_victims_63 (by decide) ?_
        obtain ⟨o8, eo8, hF⟩ := nx_e hF
        refine z_put (ws' := (w_X11_soon cA h_t a_t o_t a_t_state o_t_state a_t_state_wares o_t_state_wares a_t_state_shelf o_t_state_shelf a_t_deeds o8 a_t_trial o6)) X k_X11_victims_358 tyX1 tyX1_ok nmX1 rfl rfl 13 rfl (Nat.le_of_ble_eq_true rfl) (by rw [eo8]; rfl) dX11_victims_64 ?_
        refine z_aload_n X dX11_victims_67 rfl 1 rfl ?_
        refine z_get (v := .ref (a_t 7)) X k_X11_victims_58 0 rfl rfl dX11_victims_68 ?_
        refine z_aload_n X dX11_victims_71 rfl 1 rfl ?_
        refine z_get (v := .ref (a_t 2)) X k_X11_victims_26 0 rfl rfl dX11_victims_72 ?_
        refine z_get (v := .ref (a_t_state 0)) X k_X11_victims_127 2 rfl rfl dX11_victims_75 ?_
        refine z_aload_n X dX11_victims_78 rfl 1 rfl ?_
        refine z_get (v := .ref (a_t 2)) X k_X11_victims_26 0 rfl rfl dX11_victims_79 ?_
        refine z_get (v := .ref (a_t_state 0)) X k_X11_victims_127 2 rfl rfl dX11_victims_82 ?_
        refine z_get (v := .ref (a_t_state_wares 1)) X k_X11_victims_185 4 rfl rfl dX11_victims_85 ?_
        refine z_iload_n X dX11_victims_88 rfl 2 rfl ?_
        obtain ⟨g9, hF⟩ := gi_e hF
        refine z_iald X 5 rfl g9 dX11_victims_89 ?_
        refine z_aload_n X dX11_victims_90 rfl 1 rfl ?_
        refine z_get (v := .ref (a_t 6)) X k_X11_victims_51 0 rfl rfl dX11_victims_91 ?_
        obtain ⟨o10, o11, hc12, hF⟩ := zb2_e hF
        refine z_Vv (As := [.ref (a_t_state 0), .int (o_t_state_wares 1 (Int32.toNatClampNeg v1)), .ref (a_t 6)]) (rest := []) (wc := (w_X8_lower cA (a_t 7) a_t_trial o6 (a_t_state 0) a_t_state_wares o_t_state_wares (a_t 6) a_t_deeds o8)) (wc' := (w_X8_lower cA (a_t 7) a_t_trial o10 (a_t_state 0) a_t_state_wares o_t_state_wares (a_t 6) a_t_deeds o11)) (ws' := (w_X11_soon cA h_t a_t o_t a_t_state o_t_state a_t_state_wares o_t_state_wares a_t_state_shelf o_t_state_shelf a_t_deeds o11 a_t_trial o10)) X (cwV 3 X.2.2.2.2.1 gX11_victims_X8_makeWay rfl rfl rfl (by decide +kernel) (by rw [hR]; exact ⟨Nat.le_of_ble_eq_true rfl, Nat.le_of_ble_eq_true rfl⟩)) (fun sz => c_X8_makeWay l D cA g sz (a_t 7) a_t_trial o6 (a_t_state 0) a_t_state_wares o_t_state_wares (a_t 6) a_t_deeds o8 (o_t_state_wares 1 (Int32.toNatClampNeg v1)) o10 o11 hc12) [17, 18, 19, 20, 4, 5, 6, 7, 8, 13, 14, 15, 16] [0, 1, 2, 3, 1004, 1005, 1006, 1007, 1008, 9, 10, 11, 12, 1009, 1010, 1011, 1012, 1000, 1001, 1002, 1003] rfl (by decide) rfl (by decide) rfl rfl rfl rfl rfl rfl (Nat.le_of_ble_eq_true rfl) dX11_victims_94 ⟨Nat.zero_le _, Nat.zero_le _⟩ ?_
        refine z_aload_n X dX11_victims_97 rfl 0 rfl ?_
        refine z_get (v := .int (o_t_state_shelf 2 0)) X k_X11_victims_165 9 rfl rfl dX11_victims_98 ?_
        refine z_aload_n X dX11_victims_101 rfl 1 rfl ?_
        refine z_get (v := .ref (a_t 7)) X k_X11_victims_58 0 rfl rfl dX11_victims_102 ?_
        refine z_get (v := .int (o10 2 0)) X k_X11_victims_165 17 rfl rfl dX11_victims_105 ?_
        refine z_ixor X dX11_victims_108 ?_
        cases hF
        exact z_iret X hA hQ hr rfl dX11_victims_109 (Nat.le_refl _) (Nat.le_refl _)
      · have hF := hF.2 c13
        refine z_iconst (v := (-1 : Int32)) X dX11_victims_49 (by decide) ?_
        cases hF
        exact z_iret X hA hQ hr rfl dX11_victims_50 (Nat.le_refl _) (Nat.le_refl _)
abbrev w_X11_costBy (cA : Nat → ClassId) (h_t : Nat) (a_t : Nat → Nat) (o_t : Ob) (a_t_state : Nat → Nat) (o_t_state : Ob) (a_t_state_wares : Nat → Nat) (o_t_state_wares : Ob) (a_t_state_log : Nat → Nat) (o_t_state_log : Ob) (a_t_deeds : Nat → Nat) (o_t_deeds : Ob) (a_t_trial : Nat → Nat) (o_t_trial : Ob) : va_W := [(h_t, .inr (11, [.ref (a_t 0), .ref (a_t 1), .ref (a_t 2), .ref (a_t 3), .ref (a_t 4), .ref (a_t 5), .ref (a_t 6), .ref (a_t 7), .ref (a_t 8), .ref (a_t 9), .ref (a_t 10), .ref (a_t 11), .ref (a_t 12), .int (o_t 13 0), .int (o_t 14 0)])), (a_t 12, .inl (cA 0, 20, .inl (o_t 12))), ((a_t 2), .inr (9, [.ref (a_t_state 0), .ref (a_t_state 1), .ref (a_t_state 2), .ref (a_t_state 3), .int (o_t_state 4 0), .int (o_t_state 5 0), .int (o_t_state 6 0)])), (a_t_state 3, .inl (cA 4, 3, .inr (.inr (.inr (.inr (bk (a_t_state 20) (a_t_state 21) (a_t_state 22))))))), ((a_t_state 0), .inr (10, [.int (o_t_state_wares 0 0), .ref (a_t_state_wares 1), .ref (a_t_state_wares 2), .ref (a_t_state_wares 3), .ref (a_t_state_wares 4)])), (a_t_state_wares 1, .inl (cA 0, 8, .inl (o_t_state_wares 1))), (a_t_state_wares 2, .inl (cA 0, 8, .inl (o_t_state_wares 2))), (a_t_state_wares 3, .inl (cA 0, 8, .inl (o_t_state_wares 3))), (a_t_state_wares 4, .inl (cA 0, 8, .inl (o_t_state_wares 4))), ((a_t_state 2), .inr (4, [.int (o_t_state_log 0 0), .ref (a_t_state_log 1), .ref (a_t_state_log 2), .ref (a_t_state_log 3), .ref (a_t_state_log 4)])), (a_t_state_log 1, .inl (cA 0, 40, .inl (o_t_state_log 1))), (a_t_state_log 2, .inl (cA 0, 40, .inl (o_t_state_log 2))), (a_t_state_log 3, .inl (cA 0, 40, .inl (o_t_state_log 3))), (a_t_state_log 4, .inl (cA 0, 320, .inl (o_t_state_log 4))), ((a_t 6), .inr (1, [.int (o_t_deeds 0 0), .ref (a_t_deeds 1), .ref (a_t_deeds 2), .ref (a_t_deeds 3)])), (a_t_deeds 1, .inl (cA 0, 9, .inl (o_t_deeds 1))), (a_t_deeds 2, .inl (cA 0, 9, .inl (o_t_deeds 2))), (a_t_deeds 3, .inl (cA 0, 9, .inl (o_t_deeds 3))), ((a_t 7), .inr (8, [.int (o_t_trial 0 0), .int (o_t_trial 1 0), .int (o_t_trial 2 0), .int (o_t_trial 3 0), .ref (a_t_trial 4), .ref (a_t_trial 5), .ref (a_t_trial 6)])), (a_t_trial 4, .inl (cA 0, 8, .inl (o_t_trial 4))), (a_t_trial 5, .inl (cA 0, 8, .inl (o_t_trial 5))), (a_t_trial 6, .inl (cA 1, 8, .inr (.inr (.inl (fun j => (o_t_trial 6 j).toUInt32)))))]
set_option maxRecDepth 20000 in
theorem h_X11_costBy_X11 : ∀ w ∈ wsX110, w ∈ wsX11_costBy := by decide +kernel
set_option maxRecDepth 20000 in
theorem k_X11_costBy_26 : ZF wsX11_costBy RX11 26 11 2 RX11 TX11 15 := ⟨rfl, by decide, h_X11_costBy_X11, by decide +kernel⟩
set_option maxRecDepth 20000 in
theorem k_X11_costBy_51 : ZF wsX11_costBy RX11 51 11 6 RX11 TX11 15 := ⟨rfl, by decide, h_X11_costBy_X11, by decide +kernel⟩
set_option maxRecDepth 20000 in
theorem k_X11_costBy_58 : ZF wsX11_costBy RX11 58 11 7 RX11 TX11 15 := ⟨rfl, by decide, h_X11_costBy_X11, by decide +kernel⟩
set_option maxRecDepth 20000 in
theorem h_X11_costBy_X9 : ∀ w ∈ wsX90, w ∈ wsX11_costBy := by decide +kernel
set_option maxRecDepth 20000 in
theorem k_X11_costBy_127 : ZF wsX11_costBy RX11 127 9 0 RX9 TX9 7 := ⟨rfl, by decide, h_X11_costBy_X9, by decide +kernel⟩
set_option maxRecDepth 20000 in
theorem k_X11_costBy_143 : ZF wsX11_costBy RX11 143 9 2 RX9 TX9 7 := ⟨rfl, by decide, h_X11_costBy_X9, by decide +kernel⟩
set_option maxRecDepth 20000 in
theorem h_X11_costBy_X4 : ∀ w ∈ wsX40, w ∈ wsX11_costBy := by decide +kernel
set_option maxRecDepth 20000 in
theorem k_X11_costBy_175 : ZF wsX11_costBy RX11 175 4 0 RX4 TX4 5 := ⟨rfl, by decide, h_X11_costBy_X4, by decide +kernel⟩
set_option maxRecDepth 20000 in
theorem k_X11_costBy_229 : ZF wsX11_costBy RX11 229 4 1 RX4 TX4 5 := ⟨rfl, by decide, h_X11_costBy_X4, by decide +kernel⟩
set_option maxRecDepth 20000 in
theorem h_X11_costBy_X1 : ∀ w ∈ wsX10, w ∈ wsX11_costBy := by decide +kernel
set_option maxRecDepth 20000 in
theorem k_X11_costBy_358 : ZF wsX11_costBy RX11 358 1 0 RX1 TX1 4 := ⟨rfl, by decide, h_X11_costBy_X1, by decide +kernel⟩
set_option maxHeartbeats 8000000 in
set_option maxRecDepth 100000 in
theorem c_X11_costBy (l : Launch) (D : va_G) (cA : Nat → ClassId) (g : Nat → Nat) (sz : Nat) (h_t : Nat) (a_t : Nat → Nat) (o_t : Ob) (a_t_state : Nat → Nat) (o_t_state : Ob) (a_t_state_wares : Nat → Nat) (o_t_state_wares : Ob) (a_t_state_log : Nat → Nat) (o_t_state_log : Ob) (a_t_deeds : Nat → Nat) (o_t_deeds : Ob) (a_t_trial : Nat → Nat) (o_t_trial : Ob) (v1 : Int32) (v2 : Int32) (o_t_deeds' : Ob) (o_t_trial' : Ob) (rv : Int32) (hF : f_X11_costBy o_t_state_wares o_t_state_log o_t_deeds o_t_trial v1 v2 = some (o_t_deeds', o_t_trial', rv)) : Met l yX11_costBy wsX11_costBy ({ frames := 4, cells := 0, slots := 0, locals := 96 }) (va_Pc [.ref h_t, .int v1, .int v2] (PreW D cA g sz (w_X11_costBy cA h_t a_t o_t a_t_state o_t_state a_t_state_wares o_t_state_wares a_t_state_log o_t_state_log a_t_deeds o_t_deeds a_t_trial o_t_trial))) (va_Qi (fun (r : Int32) (_ : Unit) => r = rv) (PostW D cA sz (w_X11_costBy cA h_t a_t o_t a_t_state o_t_state a_t_state_wares o_t_state_wares a_t_state_log o_t_state_log a_t_deeds o_t_deeds a_t_trial o_t_trial) (w_X11_costBy cA h_t a_t o_t a_t_state o_t_state a_t_state_wares o_t_state_wares a_t_state_log o_t_state_log a_t_deeds o_t_deeds' a_t_trial o_t_trial')) (va_A (w_X11_costBy cA h_t a_t o_t a_t_state o_t_state a_t_state_wares o_t_state_wares a_t_state_log o_t_state_log a_t_deeds o_t_deeds a_t_trial o_t_trial) sz)) 0 0 (va_A (w_X11_costBy cA h_t a_t o_t a_t_state o_t_state a_t_state_wares o_t_state_wares a_t_state_log o_t_state_log a_t_deeds o_t_deeds a_t_trial o_t_trial) sz) := by
  refine z_start (cc := cX11_costBy) (maxL := 5) (ret := (some .int)) (lv0 := [(0, .ref h_t), (1, .int v1), (2, .int v2)]) (Qc := fun sz => va_Qi (fun (r : Int32) (_ : Unit) => r = rv) (PostW D cA sz (w_X11_costBy cA h_t a_t o_t a_t_state o_t_state a_t_state_wares o_t_state_wares a_t_state_log o_t_state_log a_t_deeds o_t_deeds a_t_trial o_t_trial) (w_X11_costBy cA h_t a_t o_t a_t_state o_t_state a_t_state_wares o_t_state_wares a_t_state_log o_t_state_log a_t_deeds o_t_deeds' a_t_trial o_t_trial')) (va_A (w_X11_costBy cA h_t a_t o_t a_t_state o_t_state a_t_state_wares o_t_state_wares a_t_state_log o_t_state_log a_t_deeds o_t_deeds a_t_trial o_t_trial) sz)) (free := fun sz => va_A (w_X11_costBy cA h_t a_t o_t a_t_state o_t_state a_t_state_wares o_t_state_wares a_t_state_log o_t_state_log a_t_deeds o_t_deeds a_t_trial o_t_trial) sz) (by decide +kernel) rfl rfl (Nat.le_of_ble_eq_true rfl) ?_
  intro p e R s m args below meth c A Q hR hA hQ X hr hin
  unfold f_X11_costBy at hF
  refine z_aload_n X dX11_costBy_0 rfl 0 rfl ?_
  refine z_get (v := .ref (a_t 7)) X k_X11_costBy_58 0 rfl rfl dX11_costBy_1 ?_
  refine z_iload_n X dX11_costBy_4 rfl 1 rfl ?_
  refine z_iload_n X dX11_costBy_5 rfl 2 rfl ?_
  obtain ⟨o1, hc2, hF⟩ := zb1_e hF
  refine z_Vv (As := [.int v1, .int v2]) (rest := []) (wc := (w_X8_begin cA (a_t 7) a_t_trial o_t_trial)) (wc' := (w_X8_begin cA (a_t 7) a_t_trial o1)) (ws' := (w_X11_costBy cA h_t a_t o_t a_t_state o_t_state a_t_state_wares o_t_state_wares a_t_state_log o_t_state_log a_t_deeds o_t_deeds a_t_trial o1)) X (cwV 2 X.2.2.2.2.1 gX11_costBy_X8_begin rfl rfl rfl (by decide +kernel) (by rw [hR]; exact ⟨Nat.le_of_ble_eq_true rfl, Nat.le_of_ble_eq_true rfl⟩)) (fun sz => c_X8_begin l D cA g sz (a_t 7) a_t_trial o_t_trial v1 v2 o1 hc2) [18, 19, 20, 21] [0, 1, 2, 3, 4, 5, 6, 7, 8, 9, 10, 11, 12, 13, 14, 15, 16, 17, 1000, 1001, 1002, 1003] rfl (by decide) rfl (by decide) rfl rfl rfl rfl rfl rfl (Nat.le_of_ble_eq_true rfl) dX11_costBy_6 ⟨Nat.zero_le _, Nat.zero_le _⟩ ?_
  refine z_iconst (v := (0 : Int32)) X dX11_costBy_9 (by decide) ?_
  refine z_istore_n (lv' := [(3, .int (0 : Int32)), (0, .ref h_t), (1, .int v1), (2, .int v2)]) X dX11_costBy_10 rfl (by decide) rfl ?_
  refine z_iconst (v := (0 : Int32)) X dX11_costBy_11 (by decide) ?_
  refine z_istore (lv' := [(4, .int (0 : Int32)), (3, .int (0 : Int32)), (0, .ref h_t), (1, .int v1), (2, .int v2)]) X dX11_costBy_12 (by decide) rfl ?_
  obtain ⟨o36, o37, k38, hL, hF⟩ := zb3_e hF
  have L39_x : ∀ (o36' : Ob) (o37' : Ob) (k38' : Int32), (o36', o37', k38') = (o36, o37, k38) → ZW p l e R s m args below meth c D A 5 0 0 Q (w_X11_costBy cA h_t a_t o_t a_t_state o_t_state a_t_state_wares o_t_state_wares a_t_state_log o_t_state_log a_t_deeds o36' a_t_trial o37') [(3, .int k38')] 77 [] := by
    intro o36' o37' k38' hz
    cases hz
    refine z_iload_n X dX11_costBy_77 rfl 0 rfl ?_
    cases hF
    exact z_iret X hA hQ hr rfl dX11_costBy_78 (Nat.le_refl _) (Nat.le_refl _)
  obtain ⟨B50, hBB50, hL⟩ := zl4_b hL
  have L39 : ∀ (n : Nat) (o32 : Ob) (o33 : Ob) (k34 : Int32) (k35 : Int32), zl4 B50 n o32 o33 k34 k35 = some (o36, o37, k38) → ZW p l e R s m args below meth c D A 5 0 0 Q (w_X11_costBy cA h_t a_t o_t a_t_state o_t_state a_t_state_wares o_t_state_wares a_t_state_log o_t_state_log a_t_deeds o32 a_t_trial o33) [(0, .ref h_t), (3, .int k34), (4, .int k35)] 14 [] := by
    intro n
    induction n with
    | zero => intro o32 o33 k34 k35 hL; cases hL
    | succ n ih =>
      intro o32 o33 k34 k35 hL
      obtain ⟨zz40, hF, hL⟩ := zl4_e hL
      rw [hBB50] at hF
      refine z_iload X dX11_costBy_14 2 rfl ?_
      refine z_aload_n X dX11_costBy_16 rfl 0 rfl ?_
      refine z_get (v := .ref (a_t 2)) X k_X11_costBy_26 0 rfl rfl dX11_costBy_17 ?_
      refine z_get (v := .ref (a_t_state 2)) X k_X11_costBy_143 2 rfl rfl dX11_costBy_20 ?_
      refine z_get (v := .int (o_t_state_log 0 0)) X k_X11_costBy_175 9 rfl rfl dX11_costBy_23 ?_
      have hF := if_e hF
      refine z_icmp_ge (tgt := 77) X dX11_costBy_26 (by decide) (fun c49 => ?_) (fun c49 => ?_)
      · have hF := hF.1 c49
        cases hF
        have hL := Option.some.inj hL
        refine z_lv (lv' := [(3, .int k34)]) [1] rfl ?_
        exact L39_x o32 o33 k34 hL
      · have hF := hF.2 c49
        refine z_aload_n X dX11_costBy_29 rfl 0 rfl ?_
        refine z_get (v := .ref (a_t 6)) X k_X11_costBy_51 0 rfl rfl dX11_costBy_30 ?_
        refine z_iconst (v := (0 : Int32)) X dX11_costBy_33 (by decide) ?_
        obtain ⟨o41, eo41, hF⟩ := nx_e hF
        refine z_put (ws' := (w_X11_costBy cA h_t a_t o_t a_t_state o_t_state a_t_state_wares o_t_state_wares a_t_state_log o_t_state_log a_t_deeds o41 a_t_trial o33)) X k_X11_costBy_358 tyX1 tyX1_ok nmX1 rfl rfl 14 rfl (Nat.le_of_ble_eq_true rfl) (by rw [eo41]; rfl) dX11_costBy_34 ?_
        refine z_iload_n X dX11_costBy_37 rfl 1 rfl ?_
        refine z_aload_n X dX11_costBy_38 rfl 0 rfl ?_
        refine z_get (v := .ref (a_t 7)) X k_X11_costBy_58 0 rfl rfl dX11_costBy_39 ?_
        refine z_aload_n X dX11_costBy_42 rfl 0 rfl ?_
        refine z_get (v := .ref (a_t 2)) X k_X11_costBy_26 0 rfl rfl dX11_costBy_43 ?_
        refine z_get (v := .ref (a_t_state 0)) X k_X11_costBy_127 2 rfl rfl dX11_costBy_46 ?_
        refine z_aload_n X dX11_costBy_49 rfl 0 rfl ?_
        refine z_get (v := .ref (a_t 2)) X k_X11_costBy_26 0 rfl rfl dX11_costBy_50 ?_
        refine z_get (v := .ref (a_t_state 2)) X k_X11_costBy_143 2 rfl rfl dX11_costBy_53 ?_
        refine z_get (v := .ref (a_t_state_log 1)) X k_X11_costBy_229 9 rfl rfl dX11_costBy_56 ?_
        refine z_iload X dX11_costBy_59 2 rfl ?_
        obtain ⟨g42, hF⟩ := gi_e hF
        refine z_iald X 10 rfl g42 dX11_costBy_61 ?_
        refine z_aload_n X dX11_costBy_62 rfl 0 rfl ?_
        refine z_get (v := .ref (a_t 6)) X k_X11_costBy_51 0 rfl rfl dX11_costBy_63 ?_
        obtain ⟨o43, o44, r45, hc46, hF⟩ := zb3_e hF
        refine z_Vi (As := [.ref (a_t_state 0), .int (o_t_state_log 1 (Int32.toNatClampNeg k35)), .ref (a_t 6)]) (rest := [.int k34]) (wc := (w_X8_lower cA (a_t 7) a_t_trial o33 (a_t_state 0) a_t_state_wares o_t_state_wares (a_t 6) a_t_deeds o41)) (wc' := (w_X8_lower cA (a_t 7) a_t_trial o43 (a_t_state 0) a_t_state_wares o_t_state_wares (a_t 6) a_t_deeds o44)) (ws' := (w_X11_costBy cA h_t a_t o_t a_t_state o_t_state a_t_state_wares o_t_state_wares a_t_state_log o_t_state_log a_t_deeds o44 a_t_trial o43)) (rv := r45) X (cwV 3 X.2.2.2.2.1 gX11_costBy_X8_serve rfl rfl rfl (by decide +kernel) (by rw [hR]; exact ⟨Nat.le_of_ble_eq_true rfl, Nat.le_of_ble_eq_true rfl⟩)) (fun sz => c_X8_serve l D cA g sz (a_t 7) a_t_trial o33 (a_t_state 0) a_t_state_wares o_t_state_wares (a_t 6) a_t_deeds o41 (o_t_state_log 1 (Int32.toNatClampNeg k35)) o43 o44 r45 hc46) [18, 19, 20, 21, 4, 5, 6, 7, 8, 14, 15, 16, 17] [0, 1, 2, 3, 1004, 1005, 1006, 1007, 1008, 9, 10, 11, 12, 13, 1009, 1010, 1011, 1012, 1000, 1001, 1002, 1003] rfl (by decide) rfl (by decide) rfl rfl rfl rfl rfl rfl (Nat.le_of_ble_eq_true rfl) dX11_costBy_66 ⟨Nat.zero_le _, Nat.zero_le _⟩ ?_
        refine z_iadd X dX11_costBy_69 ?_
        obtain ⟨x47, ex47, hF⟩ := nx_e hF
        refine z_nm ex47 ?_
        refine z_istore_n (lv' := [(3, .int x47), (0, .ref h_t), (4, .int k35)]) X dX11_costBy_70 rfl (by decide) rfl ?_
        obtain ⟨x48, ex48, hF⟩ := nx_e hF
        refine z_iinc (v := x48) (lv' := [(4, .int x48), (3, .int x47), (0, .ref h_t)]) (j := 2) X dX11_costBy_71 rfl (by rw [ex48]; rfl) (by decide) rfl ?_
        refine z_goto (tgt := 14) X dX11_costBy_74 (by decide) ?_
        cases hF
        refine z_lv (lv' := [(0, .ref h_t), (3, .int x47), (4, .int x48)]) [2, 1, 0] rfl ?_
        exact ih o44 o43 x47 x48 hL
  refine z_lv (lv' := [(0, .ref h_t), (3, .int (0 : Int32)), (4, .int (0 : Int32))]) [2, 1, 0] rfl ?_
  exact L39 FU o_t_deeds o1 (0 : Int32) (0 : Int32) hL
abbrev w_X11_curve (cA : Nat → ClassId) (h_t : Nat) (a_t : Nat → Nat) (o_t : Ob) (a_t_state : Nat → Nat) (o_t_state : Ob) (a_t_state_wares : Nat → Nat) (o_t_state_wares : Ob) (a_t_state_shelf : Nat → Nat) (o_t_state_shelf : Ob) (a_t_state_log : Nat → Nat) (o_t_state_log : Ob) (a_t_deeds : Nat → Nat) (o_t_deeds : Ob) (a_t_trial : Nat → Nat) (o_t_trial : Ob) (a_t_trialPlanner : Nat → Nat) (o_t_trialPlanner : Ob) : va_W := [(h_t, .inr (11, [.ref (a_t 0), .ref (a_t 1), .ref (a_t 2), .ref (a_t 3), .ref (a_t 4), .ref (a_t 5), .ref (a_t 6), .ref (a_t 7), .ref (a_t 8), .ref (a_t 9), .ref (a_t 10), .ref (a_t 11), .ref (a_t 12), .int (o_t 13 0), .int (o_t 14 0)])), (a_t 12, .inl (cA 0, 20, .inl (o_t 12))), ((a_t 2), .inr (9, [.ref (a_t_state 0), .ref (a_t_state 1), .ref (a_t_state 2), .ref (a_t_state 3), .int (o_t_state 4 0), .int (o_t_state 5 0), .int (o_t_state 6 0)])), (a_t_state 3, .inl (cA 4, 3, .inr (.inr (.inr (.inr (bk (a_t_state 20) (a_t_state 21) (a_t_state 22))))))), ((a_t_state 0), .inr (10, [.int (o_t_state_wares 0 0), .ref (a_t_state_wares 1), .ref (a_t_state_wares 2), .ref (a_t_state_wares 3), .ref (a_t_state_wares 4)])), (a_t_state_wares 1, .inl (cA 0, 8, .inl (o_t_state_wares 1))), (a_t_state_wares 2, .inl (cA 0, 8, .inl (o_t_state_wares 2))), (a_t_state_wares 3, .inl (cA 0, 8, .inl (o_t_state_wares 3))), (a_t_state_wares 4, .inl (cA 0, 8, .inl (o_t_state_wares 4))), ((a_t_state 1), .inr (8, [.int (o_t_state_shelf 0 0), .int (o_t_state_shelf 1 0), .int (o_t_state_shelf 2 0), .int (o_t_state_shelf 3 0), .ref (a_t_state_shelf 4), .ref (a_t_state_shelf 5), .ref (a_t_state_shelf 6)])), (a_t_state_shelf 4, .inl (cA 0, 8, .inl (o_t_state_shelf 4))), (a_t_state_shelf 5, .inl (cA 0, 8, .inl (o_t_state_shelf 5))), (a_t_state_shelf 6, .inl (cA 1, 8, .inr (.inr (.inl (fun j => (o_t_state_shelf 6 j).toUInt32))))), ((a_t_state 2), .inr (4, [.int (o_t_state_log 0 0), .ref (a_t_state_log 1), .ref (a_t_state_log 2), .ref (a_t_state_log 3), .ref (a_t_state_log 4)])), (a_t_state_log 1, .inl (cA 0, 40, .inl (o_t_state_log 1))), (a_t_state_log 2, .inl (cA 0, 40, .inl (o_t_state_log 2))), (a_t_state_log 3, .inl (cA 0, 40, .inl (o_t_state_log 3))), (a_t_state_log 4, .inl (cA 0, 320, .inl (o_t_state_log 4))), ((a_t 6), .inr (1, [.int (o_t_deeds 0 0), .ref (a_t_deeds 1), .ref (a_t_deeds 2), .ref (a_t_deeds 3)])), (a_t_deeds 1, .inl (cA 0, 9, .inl (o_t_deeds 1))), (a_t_deeds 2, .inl (cA 0, 9, .inl (o_t_deeds 2))), (a_t_deeds 3, .inl (cA 0, 9, .inl (o_t_deeds 3))), ((a_t 7), .inr (8, [.int (o_t_trial 0 0), .int (o_t_trial 1 0), .int (o_t_trial 2 0), .int (o_t_trial 3 0), .ref (a_t_trial 4), .ref (a_t_trial 5), .ref (a_t_trial 6)])), (a_t_trial 4, .inl (cA 0, 8, .inl (o_t_trial 4))), (a_t_trial 5, .inl (cA 0, 8, .inl (o_t_trial 5))), (a_t_trial 6, .inl (cA 1, 8, .inr (.inr (.inl (fun j => (o_t_trial 6 j).toUInt32))))), ((a_t 9), .inr (5, [.int (o_t_trialPlanner 0 0), .ref (a_t_trialPlanner 1), .ref (a_t_trialPlanner 2), .ref (a_t_trialPlanner 3), .ref (a_t_trialPlanner 4), .int (o_t_trialPlanner 5 0), .int (o_t_trialPlanner 6 0), .int (o_t_trialPlanner 7 0), .int (o_t_trialPlanner 8 0), .ref (a_t_trialPlanner 9)])), (a_t_trialPlanner 1, .inl (cA 0, 512, .inl (o_t_trialPlanner 1))), (a_t_trialPlanner 2, .inl (cA 0, 256, .inl (o_t_trialPlanner 2))), (a_t_trialPlanner 3, .inl (cA 0, 256, .inl (o_t_trialPlanner 3))), (a_t_trialPlanner 4, .inl (cA 0, 256, .inl (o_t_trialPlanner 4))), (a_t_trialPlanner 9, .inl (cA 0, 40, .inl (o_t_trialPlanner 9)))]
set_option maxRecDepth 20000 in
theorem h_X11_curve_X11 : ∀ w ∈ wsX110, w ∈ wsX11_curve := by decide +kernel
set_option maxRecDepth 20000 in
theorem k_X11_curve_26 : ZF wsX11_curve RX11 26 11 2 RX11 TX11 15 := ⟨rfl, by decide, h_X11_curve_X11, by decide +kernel⟩
set_option maxRecDepth 20000 in
theorem h_X11_curve_X9 : ∀ w ∈ wsX90, w ∈ wsX11_curve := by decide +kernel
set_option maxRecDepth 20000 in
theorem k_X11_curve_160 : ZF wsX11_curve RX11 160 9 1 RX9 TX9 7 := ⟨rfl, by decide, h_X11_curve_X9, by decide +kernel⟩
set_option maxRecDepth 20000 in
theorem h_X11_curve_X8 : ∀ w ∈ wsX80, w ∈ wsX11_curve := by decide +kernel
set_option maxRecDepth 20000 in
theorem k_X11_curve_164 : ZF wsX11_curve RX11 164 8 1 RX8 TX8 7 := ⟨rfl, by decide, h_X11_curve_X8, by decide +kernel⟩
set_option maxHeartbeats 8000000 in
set_option maxRecDepth 100000 in
theorem c_X11_curve (l : Launch) (D : va_G) (cA : Nat → ClassId) (g : Nat → Nat) (sz : Nat) (h_t : Nat) (a_t : Nat → Nat) (o_t : Ob) (a_t_state : Nat → Nat) (o_t_state : Ob) (a_t_state_wares : Nat → Nat) (o_t_state_wares : Ob) (a_t_state_shelf : Nat → Nat) (o_t_state_shelf : Ob) (a_t_state_log : Nat → Nat) (o_t_state_log : Ob) (a_t_deeds : Nat → Nat) (o_t_deeds : Ob) (a_t_trial : Nat → Nat) (o_t_trial : Ob) (a_t_trialPlanner : Nat → Nat) (o_t_trialPlanner : Ob) (v1 : Int32) (v2 : Int32) (o_t_deeds' : Ob) (o_t_trial' : Ob) (o_t_trialPlanner' : Ob) (rv : Int32) (hF : f_X11_curve o_t_state_wares o_t_state_shelf o_t_state_log o_t_deeds o_t_trial o_t_trialPlanner v1 v2 = some (o_t_deeds', o_t_trial', o_t_trialPlanner', rv)) : Met l yX11_curve wsX11_curve ({ frames := 5, cells := 0, slots := 0, locals := 120 }) (va_Pc [.ref h_t, .int v1, .int v2] (PreW D cA g sz (w_X11_curve cA h_t a_t o_t a_t_state o_t_state a_t_state_wares o_t_state_wares a_t_state_shelf o_t_state_shelf a_t_state_log o_t_state_log a_t_deeds o_t_deeds a_t_trial o_t_trial a_t_trialPlanner o_t_trialPlanner))) (va_Qi (fun (r : Int32) (_ : Unit) => r = rv) (PostW D cA sz (w_X11_curve cA h_t a_t o_t a_t_state o_t_state a_t_state_wares o_t_state_wares a_t_state_shelf o_t_state_shelf a_t_state_log o_t_state_log a_t_deeds o_t_deeds a_t_trial o_t_trial a_t_trialPlanner o_t_trialPlanner) (w_X11_curve cA h_t a_t o_t a_t_state o_t_state a_t_state_wares o_t_state_wares a_t_state_shelf o_t_state_shelf a_t_state_log o_t_state_log a_t_deeds o_t_deeds' a_t_trial o_t_trial' a_t_trialPlanner o_t_trialPlanner')) (va_A (w_X11_curve cA h_t a_t o_t a_t_state o_t_state a_t_state_wares o_t_state_wares a_t_state_shelf o_t_state_shelf a_t_state_log o_t_state_log a_t_deeds o_t_deeds a_t_trial o_t_trial a_t_trialPlanner o_t_trialPlanner) sz)) 0 0 (va_A (w_X11_curve cA h_t a_t o_t a_t_state o_t_state a_t_state_wares o_t_state_wares a_t_state_shelf o_t_state_shelf a_t_state_log o_t_state_log a_t_deeds o_t_deeds a_t_trial o_t_trial a_t_trialPlanner o_t_trialPlanner) sz) := by
  refine z_start (cc := cX11_curve) (maxL := 3) (ret := (some .int)) (lv0 := [(0, .ref h_t), (1, .int v1), (2, .int v2)]) (Qc := fun sz => va_Qi (fun (r : Int32) (_ : Unit) => r = rv) (PostW D cA sz (w_X11_curve cA h_t a_t o_t a_t_state o_t_state a_t_state_wares o_t_state_wares a_t_state_shelf o_t_state_shelf a_t_state_log o_t_state_log a_t_deeds o_t_deeds a_t_trial o_t_trial a_t_trialPlanner o_t_trialPlanner) (w_X11_curve cA h_t a_t o_t a_t_state o_t_state a_t_state_wares o_t_state_wares a_t_state_shelf o_t_state_shelf a_t_state_log o_t_state_log a_t_deeds o_t_deeds' a_t_trial o_t_trial' a_t_trialPlanner o_t_trialPlanner')) (va_A (w_X11_curve cA h_t a_t o_t a_t_state o_t_state a_t_state_wares o_t_state_wares a_t_state_shelf o_t_state_shelf a_t_state_log o_t_state_log a_t_deeds o_t_deeds a_t_trial o_t_trial a_t_trialPlanner o_t_trialPlanner) sz)) (free := fun sz => va_A (w_X11_curve cA h_t a_t o_t a_t_state o_t_state a_t_state_wares o_t_state_wares a_t_state_shelf o_t_state_shelf a_t_state_log o_t_state_log a_t_deeds o_t_deeds a_t_trial o_t_trial a_t_trialPlanner o_t_trialPlanner) sz) (by decide +kernel) rfl rfl (Nat.le_of_ble_eq_true rfl) ?_
  intro p e R s m args below meth c A Q hR hA hQ X hr hin
  unfold f_X11_curve at hF
  refine z_iload_n X dX11_curve_0 rfl 1 rfl ?_
  refine z_iconst (v := (1 : Int32)) X dX11_curve_1 (by decide) ?_
  have hF := if_e hF
  refine z_icmp_lt (tgt := 20) X dX11_curve_2 (by decide) (fun c12 => ?_) (fun c12 => ?_)
  · have hF := hF.1 c12
    refine z_iconst (v := (-1 : Int32)) X dX11_curve_20 (by decide) ?_
    cases hF
    exact z_iret X hA hQ hr rfl dX11_curve_21 (Nat.le_refl _) (Nat.le_refl _)
  · have hF := hF.2 c12
    refine z_iload_n X dX11_curve_5 rfl 1 rfl ?_
    refine z_bipush (v := (20 : Int32)) X dX11_curve_6 (by decide) ?_
    have hF := if_e hF
    refine z_icmp_gt (tgt := 20) X dX11_curve_8 (by decide) (fun c11 => ?_) (fun c11 => ?_)
    · have hF := hF.1 c11
      refine z_iconst (v := (-1 : Int32)) X dX11_curve_20 (by decide) ?_
      cases hF
      exact z_iret X hA hQ hr rfl dX11_curve_21 (Nat.le_refl _) (Nat.le_refl _)
    · have hF := hF.2 c11
      refine z_iload_n X dX11_curve_11 rfl 2 rfl ?_
      have hF := if_e hF
      refine z_if_lt (tgt := 20) X dX11_curve_12 (by decide) (fun c10 => ?_) (fun c10 => ?_)
      · have hF := hF.1 c10
        refine z_iconst (v := (-1 : Int32)) X dX11_curve_20 (by decide) ?_
        cases hF
        exact z_iret X hA hQ hr rfl dX11_curve_21 (Nat.le_refl _) (Nat.le_refl _)
      · have hF := hF.2 c10
        refine z_iload_n X dX11_curve_15 rfl 2 rfl ?_
        refine z_iconst (v := (1 : Int32)) X dX11_curve_16 (by decide) ?_
        have hF := if_e hF
        refine z_icmp_le (tgt := 22) X dX11_curve_17 (by decide) (fun c9 => ?_) (fun c9 => ?_)
        · have hF := hF.1 c9
          refine z_iload_n X dX11_curve_22 rfl 2 rfl ?_
          have hF := if_e hF
          refine z_if_ne (tgt := 44) X dX11_curve_23 (by decide) (fun c8 => ?_) (fun c8 => ?_)
          · have hF := hF.2 c8
            refine z_aload_n X dX11_curve_44 rfl 0 rfl ?_
            refine z_iload_n X dX11_curve_45 rfl 1 rfl ?_
            refine z_iconst (v := (-1 : Int32)) X dX11_curve_46 (by decide) ?_
            obtain ⟨o1, r2, hc3, hF⟩ := zb2_e hF
            refine z_Vi (As := [.int v1, .int (-1 : Int32)]) (rest := []) (wc := (w_X11_trialLeast cA h_t a_t o_t a_t_state o_t_state a_t_state_wares o_t_state_wares a_t_state_shelf o_t_state_shelf a_t_state_log o_t_state_log a_t_trialPlanner o_t_trialPlanner)) (wc' := (w_X11_trialLeast cA h_t a_t o_t a_t_state o_t_state a_t_state_wares o_t_state_wares a_t_state_shelf o_t_state_shelf a_t_state_log o_t_state_log a_t_trialPlanner o1)) (ws' := (w_X11_curve cA h_t a_t o_t a_t_state o_t_state a_t_state_wares o_t_state_wares a_t_state_shelf o_t_state_shelf a_t_state_log o_t_state_log a_t_deeds o_t_deeds a_t_trial o_t_trial a_t_trialPlanner o1)) (rv := r2) X (cwV 2 X.2.2.2.2.1 gX11_curve_X11_trialLeast rfl rfl rfl (by decide +kernel) (by rw [hR]; exact ⟨Nat.le_of_ble_eq_true rfl, Nat.le_of_ble_eq_true rfl⟩)) (fun sz => c_X11_trialLeast l D cA g sz h_t a_t o_t a_t_state o_t_state a_t_state_wares o_t_state_wares a_t_state_shelf o_t_state_shelf a_t_state_log o_t_state_log a_t_trialPlanner o_t_trialPlanner v1 (-1 : Int32) o1 r2 hc3) [0, 1, 2, 3, 4, 5, 6, 7, 8, 9, 10, 11, 12, 13, 14, 15, 16, 17, 26, 27, 28, 29, 30, 31] [1000, 1001, 1002, 1003, 1004, 1005, 1006, 1007, 1008, 1009, 1010, 1011, 1012, 1013, 1014, 1015, 1016, 1017, 18, 19, 20, 21, 22, 23, 24, 25, 1018, 1019, 1020, 1021, 1022, 1023] rfl (by decide) rfl (by decide) rfl rfl rfl rfl rfl rfl (Nat.le_of_ble_eq_true rfl) dX11_curve_47 ⟨Nat.zero_le _, Nat.zero_le _⟩ ?_
            cases hF
            exact z_iret X hA hQ hr rfl dX11_curve_50 (Nat.le_refl _) (Nat.le_refl _)
          · have hF := hF.1 c8
            refine z_aload_n X dX11_curve_26 rfl 0 rfl ?_
            refine z_iload_n X dX11_curve_27 rfl 1 rfl ?_
            refine z_aload_n X dX11_curve_28 rfl 0 rfl ?_
            refine z_get (v := .ref (a_t 2)) X k_X11_curve_26 0 rfl rfl dX11_curve_29 ?_
            refine z_get (v := .ref (a_t_state 1)) X k_X11_curve_160 2 rfl rfl dX11_curve_32 ?_
            refine z_get (v := .int (o_t_state_shelf 1 0)) X k_X11_curve_164 9 rfl rfl dX11_curve_35 ?_
            obtain ⟨o4, o5, r6, hc7, hF⟩ := zb3_e hF
            refine z_Vi (As := [.int v1, .int (o_t_state_shelf 1 0)]) (rest := []) (wc := (w_X11_costBy cA h_t a_t o_t a_t_state o_t_state a_t_state_wares o_t_state_wares a_t_state_log o_t_state_log a_t_deeds o_t_deeds a_t_trial o_t_trial)) (wc' := (w_X11_costBy cA h_t a_t o_t a_t_state o_t_state a_t_state_wares o_t_state_wares a_t_state_log o_t_state_log a_t_deeds o4 a_t_trial o5)) (ws' := (w_X11_curve cA h_t a_t o_t a_t_state o_t_state a_t_state_wares o_t_state_wares a_t_state_shelf o_t_state_shelf a_t_state_log o_t_state_log a_t_deeds o4 a_t_trial o5 a_t_trialPlanner o_t_trialPlanner)) (rv := r6) X (cwV 2 X.2.2.2.2.1 gX11_curve_X11_costBy rfl rfl rfl (by decide +kernel) (by rw [hR]; exact ⟨Nat.le_of_ble_eq_true rfl, Nat.le_of_ble_eq_true rfl⟩)) (fun sz => c_X11_costBy l D cA g sz h_t a_t o_t a_t_state o_t_state a_t_state_wares o_t_state_wares a_t_state_log o_t_state_log a_t_deeds o_t_deeds a_t_trial o_t_trial v1 (o_t_state_shelf 1 0) o4 o5 r6 hc7) [0, 1, 2, 3, 4, 5, 6, 7, 8, 13, 14, 15, 16, 17, 18, 19, 20, 21, 22, 23, 24, 25] [1000, 1001, 1002, 1003, 1004, 1005, 1006, 1007, 1008, 9, 10, 11, 12, 1009, 1010, 1011, 1012, 1013, 1014, 1015, 1016, 1017, 1018, 1019, 1020, 1021, 26, 27, 28, 29, 30, 31] rfl (by decide) rfl (by decide) rfl rfl rfl rfl rfl rfl (Nat.le_of_ble_eq_true rfl) dX11_curve_38 ⟨Nat.zero_le _, Nat.zero_le _⟩ ?_
            refine z_goto (tgt := 50) X dX11_curve_41 (by decide) ?_
            cases hF
            exact z_iret X hA hQ hr rfl dX11_curve_50 (Nat.le_refl _) (Nat.le_refl _)
        · have hF := hF.2 c9
          refine z_iconst (v := (-1 : Int32)) X dX11_curve_20 (by decide) ?_
          cases hF
          exact z_iret X hA hQ hr rfl dX11_curve_21 (Nat.le_refl _) (Nat.le_refl _)
abbrev w_X11_would (cA : Nat → ClassId) (h_t : Nat) (a_t : Nat → Nat) (o_t : Ob) (a_t_state : Nat → Nat) (o_t_state : Ob) (a_t_state_wares : Nat → Nat) (o_t_state_wares : Ob) (a_t_state_shelf : Nat → Nat) (o_t_state_shelf : Ob) (a_t_state_log : Nat → Nat) (o_t_state_log : Ob) (a_t_deeds : Nat → Nat) (o_t_deeds : Ob) (a_t_trial : Nat → Nat) (o_t_trial : Ob) : va_W := [(h_t, .inr (11, [.ref (a_t 0), .ref (a_t 1), .ref (a_t 2), .ref (a_t 3), .ref (a_t 4), .ref (a_t 5), .ref (a_t 6), .ref (a_t 7), .ref (a_t 8), .ref (a_t 9), .ref (a_t 10), .ref (a_t 11), .ref (a_t 12), .int (o_t 13 0), .int (o_t 14 0)])), (a_t 12, .inl (cA 0, 20, .inl (o_t 12))), ((a_t 2), .inr (9, [.ref (a_t_state 0), .ref (a_t_state 1), .ref (a_t_state 2), .ref (a_t_state 3), .int (o_t_state 4 0), .int (o_t_state 5 0), .int (o_t_state 6 0)])), (a_t_state 3, .inl (cA 4, 3, .inr (.inr (.inr (.inr (bk (a_t_state 20) (a_t_state 21) (a_t_state 22))))))), ((a_t_state 0), .inr (10, [.int (o_t_state_wares 0 0), .ref (a_t_state_wares 1), .ref (a_t_state_wares 2), .ref (a_t_state_wares 3), .ref (a_t_state_wares 4)])), (a_t_state_wares 1, .inl (cA 0, 8, .inl (o_t_state_wares 1))), (a_t_state_wares 2, .inl (cA 0, 8, .inl (o_t_state_wares 2))), (a_t_state_wares 3, .inl (cA 0, 8, .inl (o_t_state_wares 3))), (a_t_state_wares 4, .inl (cA 0, 8, .inl (o_t_state_wares 4))), ((a_t_state 1), .inr (8, [.int (o_t_state_shelf 0 0), .int (o_t_state_shelf 1 0), .int (o_t_state_shelf 2 0), .int (o_t_state_shelf 3 0), .ref (a_t_state_shelf 4), .ref (a_t_state_shelf 5), .ref (a_t_state_shelf 6)])), (a_t_state_shelf 4, .inl (cA 0, 8, .inl (o_t_state_shelf 4))), (a_t_state_shelf 5, .inl (cA 0, 8, .inl (o_t_state_shelf 5))), (a_t_state_shelf 6, .inl (cA 1, 8, .inr (.inr (.inl (fun j => (o_t_state_shelf 6 j).toUInt32))))), ((a_t_state 2), .inr (4, [.int (o_t_state_log 0 0), .ref (a_t_state_log 1), .ref (a_t_state_log 2), .ref (a_t_state_log 3), .ref (a_t_state_log 4)])), (a_t_state_log 1, .inl (cA 0, 40, .inl (o_t_state_log 1))), (a_t_state_log 2, .inl (cA 0, 40, .inl (o_t_state_log 2))), (a_t_state_log 3, .inl (cA 0, 40, .inl (o_t_state_log 3))), (a_t_state_log 4, .inl (cA 0, 320, .inl (o_t_state_log 4))), ((a_t 6), .inr (1, [.int (o_t_deeds 0 0), .ref (a_t_deeds 1), .ref (a_t_deeds 2), .ref (a_t_deeds 3)])), (a_t_deeds 1, .inl (cA 0, 9, .inl (o_t_deeds 1))), (a_t_deeds 2, .inl (cA 0, 9, .inl (o_t_deeds 2))), (a_t_deeds 3, .inl (cA 0, 9, .inl (o_t_deeds 3))), ((a_t 7), .inr (8, [.int (o_t_trial 0 0), .int (o_t_trial 1 0), .int (o_t_trial 2 0), .int (o_t_trial 3 0), .ref (a_t_trial 4), .ref (a_t_trial 5), .ref (a_t_trial 6)])), (a_t_trial 4, .inl (cA 0, 8, .inl (o_t_trial 4))), (a_t_trial 5, .inl (cA 0, 8, .inl (o_t_trial 5))), (a_t_trial 6, .inl (cA 1, 8, .inr (.inr (.inl (fun j => (o_t_trial 6 j).toUInt32)))))]
set_option maxRecDepth 20000 in
theorem h_X11_would_X11 : ∀ w ∈ wsX110, w ∈ wsX11_would := by decide +kernel
set_option maxRecDepth 20000 in
theorem k_X11_would_26 : ZF wsX11_would RX11 26 11 2 RX11 TX11 15 := ⟨rfl, by decide, h_X11_would_X11, by decide +kernel⟩
set_option maxRecDepth 20000 in
theorem h_X11_would_X9 : ∀ w ∈ wsX90, w ∈ wsX11_would := by decide +kernel
set_option maxRecDepth 20000 in
theorem k_X11_would_160 : ZF wsX11_would RX11 160 9 1 RX9 TX9 7 := ⟨rfl, by decide, h_X11_would_X9, by decide +kernel⟩
set_option maxRecDepth 20000 in
theorem h_X11_would_X8 : ∀ w ∈ wsX80, w ∈ wsX11_would := by decide +kernel
set_option maxRecDepth 20000 in
theorem k_X11_would_163 : ZF wsX11_would RX11 163 8 0 RX8 TX8 7 := ⟨rfl, by decide, h_X11_would_X8, by decide +kernel⟩
set_option maxHeartbeats 8000000 in
set_option maxRecDepth 100000 in
theorem c_X11_would (l : Launch) (D : va_G) (cA : Nat → ClassId) (g : Nat → Nat) (sz : Nat) (h_t : Nat) (a_t : Nat → Nat) (o_t : Ob) (a_t_state : Nat → Nat) (o_t_state : Ob) (a_t_state_wares : Nat → Nat) (o_t_state_wares : Ob) (a_t_state_shelf : Nat → Nat) (o_t_state_shelf : Ob) (a_t_state_log : Nat → Nat) (o_t_state_log : Ob) (a_t_deeds : Nat → Nat) (o_t_deeds : Ob) (a_t_trial : Nat → Nat) (o_t_trial : Ob) (v1 : Int32) (o_t_deeds' : Ob) (o_t_trial' : Ob) (rv : Int32) (hF : f_X11_would o_t_state_wares o_t_state_shelf o_t_state_log o_t_deeds o_t_trial v1 = some (o_t_deeds', o_t_trial', rv)) : Met l yX11_would wsX11_would ({ frames := 5, cells := 0, slots := 0, locals := 120 }) (va_Pc [.ref h_t, .int v1] (PreW D cA g sz (w_X11_would cA h_t a_t o_t a_t_state o_t_state a_t_state_wares o_t_state_wares a_t_state_shelf o_t_state_shelf a_t_state_log o_t_state_log a_t_deeds o_t_deeds a_t_trial o_t_trial))) (va_Qi (fun (r : Int32) (_ : Unit) => r = rv) (PostW D cA sz (w_X11_would cA h_t a_t o_t a_t_state o_t_state a_t_state_wares o_t_state_wares a_t_state_shelf o_t_state_shelf a_t_state_log o_t_state_log a_t_deeds o_t_deeds a_t_trial o_t_trial) (w_X11_would cA h_t a_t o_t a_t_state o_t_state a_t_state_wares o_t_state_wares a_t_state_shelf o_t_state_shelf a_t_state_log o_t_state_log a_t_deeds o_t_deeds' a_t_trial o_t_trial')) (va_A (w_X11_would cA h_t a_t o_t a_t_state o_t_state a_t_state_wares o_t_state_wares a_t_state_shelf o_t_state_shelf a_t_state_log o_t_state_log a_t_deeds o_t_deeds a_t_trial o_t_trial) sz)) 0 0 (va_A (w_X11_would cA h_t a_t o_t a_t_state o_t_state a_t_state_wares o_t_state_wares a_t_state_shelf o_t_state_shelf a_t_state_log o_t_state_log a_t_deeds o_t_deeds a_t_trial o_t_trial) sz) := by
  refine z_start (cc := cX11_would) (maxL := 2) (ret := (some .int)) (lv0 := [(0, .ref h_t), (1, .int v1)]) (Qc := fun sz => va_Qi (fun (r : Int32) (_ : Unit) => r = rv) (PostW D cA sz (w_X11_would cA h_t a_t o_t a_t_state o_t_state a_t_state_wares o_t_state_wares a_t_state_shelf o_t_state_shelf a_t_state_log o_t_state_log a_t_deeds o_t_deeds a_t_trial o_t_trial) (w_X11_would cA h_t a_t o_t a_t_state o_t_state a_t_state_wares o_t_state_wares a_t_state_shelf o_t_state_shelf a_t_state_log o_t_state_log a_t_deeds o_t_deeds' a_t_trial o_t_trial')) (va_A (w_X11_would cA h_t a_t o_t a_t_state o_t_state a_t_state_wares o_t_state_wares a_t_state_shelf o_t_state_shelf a_t_state_log o_t_state_log a_t_deeds o_t_deeds a_t_trial o_t_trial) sz)) (free := fun sz => va_A (w_X11_would cA h_t a_t o_t a_t_state o_t_state a_t_state_wares o_t_state_wares a_t_state_shelf o_t_state_shelf a_t_state_log o_t_state_log a_t_deeds o_t_deeds a_t_trial o_t_trial) sz) (by decide +kernel) rfl rfl (Nat.le_of_ble_eq_true rfl) ?_
  intro p e R s m args below meth c A Q hR hA hQ X hr hin
  unfold f_X11_would at hF
  refine z_iload_n X dX11_would_0 rfl 1 rfl ?_
  have hF := if_e hF
  refine z_if_lt (tgt := 9) X dX11_would_1 (by decide) (fun c6 => ?_) (fun c6 => ?_)
  · have hF := hF.1 c6
    refine z_iconst (v := (-1 : Int32)) X dX11_would_9 (by decide) ?_
    refine z_goto (tgt := 28) X dX11_would_10 (by decide) ?_
    cases hF
    exact z_iret X hA hQ hr rfl dX11_would_28 (Nat.le_refl _) (Nat.le_refl _)
  · have hF := hF.2 c6
    refine z_iload_n X dX11_would_4 rfl 1 rfl ?_
    refine z_iconst (v := (2 : Int32)) X dX11_would_5 (by decide) ?_
    have hF := if_e hF
    refine z_icmp_le (tgt := 13) X dX11_would_6 (by decide) (fun c5 => ?_) (fun c5 => ?_)
    · have hF := hF.1 c5
      refine z_aload_n X dX11_would_13 rfl 0 rfl ?_
      refine z_aload_n X dX11_would_14 rfl 0 rfl ?_
      refine z_get (v := .ref (a_t 2)) X k_X11_would_26 0 rfl rfl dX11_would_15 ?_
      refine z_get (v := .ref (a_t_state 1)) X k_X11_would_160 2 rfl rfl dX11_would_18 ?_
      refine z_get (v := .int (o_t_state_shelf 0 0)) X k_X11_would_163 9 rfl rfl dX11_would_21 ?_
      refine z_iload_n X dX11_would_24 rfl 1 rfl ?_
      obtain ⟨o1, o2, r3, hc4, hF⟩ := zb3_e hF
      refine z_Vi (As := [.int (o_t_state_shelf 0 0), .int v1]) (rest := []) (wc := (w_X11_costBy cA h_t a_t o_t a_t_state o_t_state a_t_state_wares o_t_state_wares a_t_state_log o_t_state_log a_t_deeds o_t_deeds a_t_trial o_t_trial)) (wc' := (w_X11_costBy cA h_t a_t o_t a_t_state o_t_state a_t_state_wares o_t_state_wares a_t_state_log o_t_state_log a_t_deeds o1 a_t_trial o2)) (ws' := (w_X11_would cA h_t a_t o_t a_t_state o_t_state a_t_state_wares o_t_state_wares a_t_state_shelf o_t_state_shelf a_t_state_log o_t_state_log a_t_deeds o1 a_t_trial o2)) (rv := r3) X (cwV 2 X.2.2.2.2.1 gX11_would_X11_costBy rfl rfl rfl (by decide +kernel) (by rw [hR]; exact ⟨Nat.le_of_ble_eq_true rfl, Nat.le_of_ble_eq_true rfl⟩)) (fun sz => c_X11_costBy l D cA g sz h_t a_t o_t a_t_state o_t_state a_t_state_wares o_t_state_wares a_t_state_log o_t_state_log a_t_deeds o_t_deeds a_t_trial o_t_trial (o_t_state_shelf 0 0) v1 o1 o2 r3 hc4) [0, 1, 2, 3, 4, 5, 6, 7, 8, 13, 14, 15, 16, 17, 18, 19, 20, 21, 22, 23, 24, 25] [1000, 1001, 1002, 1003, 1004, 1005, 1006, 1007, 1008, 9, 10, 11, 12, 1009, 1010, 1011, 1012, 1013, 1014, 1015, 1016, 1017, 1018, 1019, 1020, 1021] rfl (by decide) rfl (by decide) rfl rfl rfl rfl rfl rfl (Nat.le_of_ble_eq_true rfl) dX11_would_25 ⟨Nat.zero_le _, Nat.zero_le _⟩ ?_
      cases hF
      exact z_iret X hA hQ hr rfl dX11_would_28 (Nat.le_refl _) (Nat.le_refl _)
    · have hF := hF.2 c5
      refine z_iconst (v := (-1 : Int32)) X dX11_would_9 (by decide) ?_
      refine z_goto (tgt := 28) X dX11_would_10 (by decide) ?_
      cases hF
      exact z_iret X hA hQ hr rfl dX11_would_28 (Nat.le_refl _) (Nat.le_refl _)
