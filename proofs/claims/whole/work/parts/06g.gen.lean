set_option maxRecDepth 20000 in
theorem h_X11_canShift_X11 : ∀ w ∈ wsX110, w ∈ wsX11_canShift := by decide +kernel
set_option maxRecDepth 20000 in
theorem k_X11_canShift_26 : ZF wsX11_canShift RX11 26 11 2 RX11 TX11 15 := ⟨rfl, by decide, h_X11_canShift_X11, by decide +kernel⟩
set_option maxRecDepth 20000 in
theorem h_X11_canShift_X10 : ∀ w ∈ wsX100, w ∈ wsX11_canShift := by decide +kernel
set_option maxRecDepth 20000 in
theorem k_X11_canShift_121 : ZF wsX11_canShift RX11 121 10 0 RX10 TX10 5 := ⟨rfl, by decide, h_X11_canShift_X10, by decide +kernel⟩
set_option maxRecDepth 20000 in
theorem h_X11_canShift_X9 : ∀ w ∈ wsX90, w ∈ wsX11_canShift := by decide +kernel
set_option maxRecDepth 20000 in
theorem k_X11_canShift_127 : ZF wsX11_canShift RX11 127 9 0 RX9 TX9 7 := ⟨rfl, by decide, h_X11_canShift_X9, by decide +kernel⟩
set_option maxRecDepth 20000 in
theorem k_X11_canShift_160 : ZF wsX11_canShift RX11 160 9 1 RX9 TX9 7 := ⟨rfl, by decide, h_X11_canShift_X9, by decide +kernel⟩
set_option maxRecDepth 20000 in
theorem h_X11_canShift_X8 : ∀ w ∈ wsX80, w ∈ wsX11_canShift := by decide +kernel
set_option maxRecDepth 20000 in
theorem k_X11_canShift_163 : ZF wsX11_canShift RX11 163 8 0 RX8 TX8 7 := ⟨rfl, by decide, h_X11_canShift_X8, by decide +kernel⟩
set_option maxRecDepth 20000 in
theorem k_X11_canShift_165 : ZF wsX11_canShift RX11 165 8 2 RX8 TX8 7 := ⟨rfl, by decide, h_X11_canShift_X8, by decide +kernel⟩
set_option maxRecDepth 20000 in
theorem k_X11_canShift_185 : ZF wsX11_canShift RX11 185 10 1 RX10 TX10 5 := ⟨rfl, by decide, h_X11_canShift_X10, by decide +kernel⟩
set_option maxHeartbeats 8000000 in
set_option maxRecDepth 100000 in
theorem c_X11_canShift (l : Launch) (D : va_G) (cA : Nat → ClassId) (g : Nat → Nat) (sz : Nat) (h_t : Nat) (a_t : Nat → Nat) (o_t : Ob) (a_t_state : Nat → Nat) (o_t_state : Ob) (a_t_state_wares : Nat → Nat) (o_t_state_wares : Ob) (a_t_state_shelf : Nat → Nat) (o_t_state_shelf : Ob) (v1 : Int32) (v2 : Int32) (rv : Int32) (hF : f_X11_canShift o_t_state_wares o_t_state_shelf v1 v2 = some rv) : Met l yX11_canShift wsX11_canShift ({ frames := 0, cells := 0, slots := 0, locals := 0 }) (va_Pc [.ref h_t, .int v1, .int v2] (PreW D cA g sz (w_X11_item cA h_t a_t o_t a_t_state o_t_state a_t_state_wares o_t_state_wares a_t_state_shelf o_t_state_shelf))) (va_Qi (fun (r : Int32) (_ : Unit) => r = rv) (PostW D cA sz (w_X11_item cA h_t a_t o_t a_t_state o_t_state a_t_state_wares o_t_state_wares a_t_state_shelf o_t_state_shelf) (w_X11_item cA h_t a_t o_t a_t_state o_t_state a_t_state_wares o_t_state_wares a_t_state_shelf o_t_state_shelf)) (va_A (w_X11_item cA h_t a_t o_t a_t_state o_t_state a_t_state_wares o_t_state_wares a_t_state_shelf o_t_state_shelf) sz)) 0 0 (va_A (w_X11_item cA h_t a_t o_t a_t_state o_t_state a_t_state_wares o_t_state_wares a_t_state_shelf o_t_state_shelf) sz) := by
  refine z_start (cc := cX11_canShift) (maxL := 6) (ret := (some .boolean)) (lv0 := [(0, .ref h_t), (1, .int v1), (2, .int v2)]) (Qc := fun sz => va_Qi (fun (r : Int32) (_ : Unit) => r = rv) (PostW D cA sz (w_X11_item cA h_t a_t o_t a_t_state o_t_state a_t_state_wares o_t_state_wares a_t_state_shelf o_t_state_shelf) (w_X11_item cA h_t a_t o_t a_t_state o_t_state a_t_state_wares o_t_state_wares a_t_state_shelf o_t_state_shelf)) (va_A (w_X11_item cA h_t a_t o_t a_t_state o_t_state a_t_state_wares o_t_state_wares a_t_state_shelf o_t_state_shelf) sz)) (free := fun sz => va_A (w_X11_item cA h_t a_t o_t a_t_state o_t_state a_t_state_wares o_t_state_wares a_t_state_shelf o_t_state_shelf) sz) (by decide +kernel) rfl rfl (Nat.le_of_ble_eq_true rfl) ?_
  intro p e R s m args below meth c A Q hR hA hQ X hr hin
  unfold f_X11_canShift at hF
  refine z_iload_n X dX11_canShift_0 rfl 2 rfl ?_
  refine z_iconst (v := (1 : Int32)) X dX11_canShift_1 (by decide) ?_
  have hF := if_e hF
  refine z_icmp_lt (tgt := 31) X dX11_canShift_2 (by decide) (fun c55 => ?_) (fun c55 => ?_)
  · have hF := hF.1 c55
    refine z_iconst (v := (0 : Int32)) X dX11_canShift_31 (by decide) ?_
    cases hF
    exact z_zret X hA hQ hr (Or.inl rfl)  rfl dX11_canShift_32 (Nat.le_refl _) (Nat.le_refl _)
  · have hF := hF.2 c55
    refine z_iload_n X dX11_canShift_5 rfl 2 rfl ?_
    refine z_bipush (v := (40 : Int32)) X dX11_canShift_6 (by decide) ?_
    have hF := if_e hF
    refine z_icmp_gt (tgt := 31) X dX11_canShift_8 (by decide) (fun c54 => ?_) (fun c54 => ?_)
    · have hF := hF.1 c54
      refine z_iconst (v := (0 : Int32)) X dX11_canShift_31 (by decide) ?_
      cases hF
      exact z_zret X hA hQ hr (Or.inl rfl)  rfl dX11_canShift_32 (Nat.le_refl _) (Nat.le_refl _)
    · have hF := hF.2 c54
      refine z_iload_n X dX11_canShift_11 rfl 1 rfl ?_
      have hF := if_e hF
      refine z_if_lt (tgt := 31) X dX11_canShift_12 (by decide) (fun c53 => ?_) (fun c53 => ?_)
      · have hF := hF.1 c53
        refine z_iconst (v := (0 : Int32)) X dX11_canShift_31 (by decide) ?_
        cases hF
        exact z_zret X hA hQ hr (Or.inl rfl)  rfl dX11_canShift_32 (Nat.le_refl _) (Nat.le_refl _)
      · have hF := hF.2 c53
        refine z_iload_n X dX11_canShift_15 rfl 1 rfl ?_
        refine z_iconst (v := (1 : Int32)) X dX11_canShift_16 (by decide) ?_
        refine z_aload_n X dX11_canShift_17 rfl 0 rfl ?_
        refine z_get (v := .ref (a_t 2)) X k_X11_canShift_26 0 rfl rfl dX11_canShift_18 ?_
        refine z_get (v := .ref (a_t_state 0)) X k_X11_canShift_127 2 rfl rfl dX11_canShift_21 ?_
        refine z_get (v := .int (o_t_state_wares 0 0)) X k_X11_canShift_121 4 rfl rfl dX11_canShift_24 ?_
        refine z_ishl X dX11_canShift_27 ?_
        have hF := if_e hF
        refine z_icmp_lt (tgt := 33) X dX11_canShift_28 (by decide) (fun c52 => ?_) (fun c52 => ?_)
        · have hF := hF.1 c52
          refine z_aload_n X dX11_canShift_33 rfl 0 rfl ?_
          refine z_get (v := .ref (a_t 2)) X k_X11_canShift_26 0 rfl rfl dX11_canShift_34 ?_
          refine z_get (v := .ref (a_t_state 1)) X k_X11_canShift_160 2 rfl rfl dX11_canShift_37 ?_
          refine z_get (v := .int (o_t_state_shelf 2 0)) X k_X11_canShift_165 9 rfl rfl dX11_canShift_40 ?_
          refine z_iload_n X dX11_canShift_43 rfl 1 rfl ?_
          refine z_ixor X dX11_canShift_44 ?_
          obtain ⟨x1, ex1, hF⟩ := nx_e hF
          refine z_nm ex1 ?_
          refine z_istore_n (lv' := [(3, .int x1), (0, .ref h_t), (1, .int v1), (2, .int v2)]) X dX11_canShift_45 rfl (by decide) rfl ?_
          refine z_iconst (v := (0 : Int32)) X dX11_canShift_46 (by decide) ?_
          refine z_istore (lv' := [(4, .int (0 : Int32)), (3, .int x1), (0, .ref h_t), (1, .int v1), (2, .int v2)]) X dX11_canShift_47 (by decide) rfl ?_
          refine z_iconst (v := (0 : Int32)) X dX11_canShift_49 (by decide) ?_
          refine z_istore (lv' := [(5, .int (0 : Int32)), (4, .int (0 : Int32)), (3, .int x1), (0, .ref h_t), (1, .int v1), (2, .int v2)]) X dX11_canShift_50 (by decide) rfl ?_
          obtain ⟨z50, hL, hFx, L37_r⟩ := ze1_e hF
          have L37_x : ∀ (k35 : Int32), z50 = .inl k35 → ZW p l e R s m args below meth c D A 6 0 0 Q (w_X11_item cA h_t a_t o_t a_t_state o_t_state a_t_state_wares o_t_state_wares a_t_state_shelf o_t_state_shelf) [(0, .ref h_t), (4, .int k35)] 127 [] := by
            intro k35 hz
            have hF := hFx k35 hz
            refine z_iload X dX11_canShift_127 1 rfl ?_
            refine z_aload_n X dX11_canShift_129 rfl 0 rfl ?_
            refine z_get (v := .ref (a_t 2)) X k_X11_canShift_26 0 rfl rfl dX11_canShift_130 ?_
            refine z_get (v := .ref (a_t_state 1)) X k_X11_canShift_160 2 rfl rfl dX11_canShift_133 ?_
            refine z_get (v := .int (o_t_state_shelf 0 0)) X k_X11_canShift_163 9 rfl rfl dX11_canShift_136 ?_
            have hF := if_e hF
            refine z_icmp_gt (tgt := 146) X dX11_canShift_139 (by decide) (fun c36 => ?_) (fun c36 => ?_)
            · have hF := hF.1 c36
              refine z_iconst (v := (0 : Int32)) X dX11_canShift_146 (by decide) ?_
              cases hF
              exact z_zret X hA hQ hr (Or.inl rfl)  rfl dX11_canShift_147 (Nat.le_refl _) (Nat.le_refl _)
            · have hF := hF.2 c36
              refine z_iconst (v := (1 : Int32)) X dX11_canShift_142 (by decide) ?_
              refine z_goto (tgt := 147) X dX11_canShift_143 (by decide) ?_
              cases hF
              exact z_zret X hA hQ hr (Or.inr rfl)  rfl dX11_canShift_147 (Nat.le_refl _) (Nat.le_refl _)
          obtain ⟨B51, hBB51, hL⟩ := zl2_b hL
          have L37 : ∀ (n : Nat) (k33 : Int32) (k34 : Int32), zl2 B51 n k33 k34 = some z50 → ZW p l e R s m args below meth c D A 6 0 0 Q (w_X11_item cA h_t a_t o_t a_t_state o_t_state a_t_state_wares o_t_state_wares a_t_state_shelf o_t_state_shelf) [(0, .ref h_t), (1, .int v1), (2, .int v2), (3, .int x1), (4, .int k33), (5, .int k34)] 52 [] := by
            intro n
            induction n with
            | zero => intro k33 k34 hL; cases hL
            | succ n ih =>
              intro k33 k34 hL
              obtain ⟨zz38, hF, hL⟩ := zl2_e hL
              rw [hBB51] at hF
              refine z_iload X dX11_canShift_52 5 rfl ?_
              refine z_aload_n X dX11_canShift_54 rfl 0 rfl ?_
              refine z_get (v := .ref (a_t 2)) X k_X11_canShift_26 0 rfl rfl dX11_canShift_55 ?_
              refine z_get (v := .ref (a_t_state 0)) X k_X11_canShift_127 2 rfl rfl dX11_canShift_58 ?_
              refine z_get (v := .int (o_t_state_wares 0 0)) X k_X11_canShift_121 4 rfl rfl dX11_canShift_61 ?_
              have hF := if_e hF
              refine z_icmp_ge (tgt := 127) X dX11_canShift_64 (by decide) (fun c49 => ?_) (fun c49 => ?_)
              · have hF := hF.1 c49
                cases hF
                have hL := Option.some.inj hL
                refine z_lv (lv' := [(0, .ref h_t), (4, .int k33)]) [0, 4] rfl ?_
                exact L37_x k33 hL.symm
              · have hF := hF.2 c49
                refine z_iload_n X dX11_canShift_67 rfl 3 rfl ?_
                refine z_iload X dX11_canShift_68 5 rfl ?_
                refine z_ishr X dX11_canShift_70 ?_
                refine z_iconst (v := (1 : Int32)) X dX11_canShift_71 (by decide) ?_
                refine z_iand X dX11_canShift_72 ?_
                refine z_iconst (v := (1 : Int32)) X dX11_canShift_73 (by decide) ?_
                obtain ⟨K42, eK42, hF⟩ := nx_e hF
                have K42_l : ∀ (_ : Unit), K42 () = some zz38 → ZW p l e R s m args below meth c D A 6 0 0 Q (w_X11_item cA h_t a_t o_t a_t_state o_t_state a_t_state_wares o_t_state_wares a_t_state_shelf o_t_state_shelf) [(0, .ref h_t), (1, .int v1), (2, .int v2), (3, .int x1), (4, .int k33), (5, .int k34)] 96 [] := by
                  intro _ hF
                  rw [eK42] at hF
                  refine z_iload X dX11_canShift_96 4 rfl ?_
                  refine z_iload_n X dX11_canShift_98 rfl 1 rfl ?_
                  refine z_iload X dX11_canShift_99 5 rfl ?_
                  refine z_ishr X dX11_canShift_101 ?_
                  refine z_iconst (v := (1 : Int32)) X dX11_canShift_102 (by decide) ?_
                  refine z_iand X dX11_canShift_103 ?_
                  refine z_aload_n X dX11_canShift_104 rfl 0 rfl ?_
                  refine z_get (v := .ref (a_t 2)) X k_X11_canShift_26 0 rfl rfl dX11_canShift_105 ?_
                  refine z_get (v := .ref (a_t_state 0)) X k_X11_canShift_127 2 rfl rfl dX11_canShift_108 ?_
                  refine z_get (v := .ref (a_t_state_wares 1)) X k_X11_canShift_185 4 rfl rfl dX11_canShift_111 ?_
                  refine z_iload X dX11_canShift_114 5 rfl ?_
                  obtain ⟨g43, hF⟩ := gi_e hF
                  refine z_iald X 5 rfl g43 dX11_canShift_116 ?_
                  refine z_imul X dX11_canShift_117 ?_
                  refine z_iadd X dX11_canShift_118 ?_
                  obtain ⟨x44, ex44, hF⟩ := nx_e hF
                  refine z_nm ex44 ?_
                  refine z_istore (lv' := [(4, .int x44), (0, .ref h_t), (1, .int v1), (2, .int v2), (3, .int x1), (5, .int k34)]) X dX11_canShift_119 (by decide) rfl ?_
                  obtain ⟨x45, ex45, hF⟩ := nx_e hF
                  refine z_iinc (v := x45) (lv' := [(5, .int x45), (4, .int x44), (0, .ref h_t), (1, .int v1), (2, .int v2), (3, .int x1)]) (j := 5) X dX11_canShift_121 rfl (by rw [ex45]; rfl) (by decide) rfl ?_
                  refine z_goto (tgt := 52) X dX11_canShift_124 (by decide) ?_
                  cases hF
                  refine z_lv (lv' := [(0, .ref h_t), (1, .int v1), (2, .int v2), (3, .int x1), (4, .int x44), (5, .int x45)]) [2, 3, 4, 5, 1, 0] rfl ?_
                  exact ih x44 x45 hL
                have hF := if_e hF
                refine z_icmp_ne (tgt := 96) X dX11_canShift_74 (by decide) (fun c48 => ?_) (fun c48 => ?_)
                · have hF := hF.2 c48
                  refine z_lv (lv' := [(0, .ref h_t), (1, .int v1), (2, .int v2), (3, .int x1), (4, .int k33), (5, .int k34)]) [0, 1, 2, 3, 4, 5] rfl ?_
                  exact K42_l () hF
                · have hF := hF.1 c48
                  refine z_aload_n X dX11_canShift_77 rfl 0 rfl ?_
                  refine z_get (v := .ref (a_t 2)) X k_X11_canShift_26 0 rfl rfl dX11_canShift_78 ?_
                  refine z_get (v := .ref (a_t_state 0)) X k_X11_canShift_127 2 rfl rfl dX11_canShift_81 ?_
                  refine z_get (v := .ref (a_t_state_wares 1)) X k_X11_canShift_185 4 rfl rfl dX11_canShift_84 ?_
                  refine z_iload X dX11_canShift_87 5 rfl ?_
                  obtain ⟨g46, hF⟩ := gi_e hF
                  refine z_iald X 5 rfl g46 dX11_canShift_89 ?_
                  refine z_iload_n X dX11_canShift_90 rfl 2 rfl ?_
                  have hF := if_e hF
                  refine z_icmp_le (tgt := 96) X dX11_canShift_91 (by decide) (fun c47 => ?_) (fun c47 => ?_)
                  · have hF := hF.1 c47
                    refine z_lv (lv' := [(0, .ref h_t), (1, .int v1), (2, .int v2), (3, .int x1), (4, .int k33), (5, .int k34)]) [0, 1, 2, 3, 4, 5] rfl ?_
                    exact K42_l () hF
                  · have hF := hF.2 c47
                    refine z_iconst (v := (0 : Int32)) X dX11_canShift_94 (by decide) ?_
                    cases hF
                    have hL := (Option.some.inj hL).symm
                    have hF := L37_r _ hL
                    cases hF
                    exact z_zret X hA hQ hr (Or.inl rfl)  rfl dX11_canShift_95 (Nat.le_refl _) (Nat.le_refl _)
          refine z_lv (lv' := [(0, .ref h_t), (1, .int v1), (2, .int v2), (3, .int x1), (4, .int (0 : Int32)), (5, .int (0 : Int32))]) [3, 4, 5, 2, 1, 0] rfl ?_
          exact L37 FU (0 : Int32) (0 : Int32) hL
        · have hF := hF.2 c52
          refine z_iconst (v := (0 : Int32)) X dX11_canShift_31 (by decide) ?_
          cases hF
          exact z_zret X hA hQ hr (Or.inl rfl)  rfl dX11_canShift_32 (Nat.le_refl _) (Nat.le_refl _)
abbrev w_X11_rides (cA : Nat → ClassId) (h_t : Nat) (a_t : Nat → Nat) (o_t : Ob) (a_t_state : Nat → Nat) (o_t_state : Ob) (a_t_state_wares : Nat → Nat) (o_t_state_wares : Ob) (a_t_state_shelf : Nat → Nat) (o_t_state_shelf : Ob) (a_t_toldRides : Nat → Nat) (o_t_toldRides : Ob) : va_W := [(h_t, .inr (11, [.ref (a_t 0), .ref (a_t 1), .ref (a_t 2), .ref (a_t 3), .ref (a_t 4), .ref (a_t 5), .ref (a_t 6), .ref (a_t 7), .ref (a_t 8), .ref (a_t 9), .ref (a_t 10), .ref (a_t 11), .ref (a_t 12), .int (o_t 13 0), .int (o_t 14 0)])), (a_t 12, .inl (cA 0, 20, .inl (o_t 12))), ((a_t 2), .inr (9, [.ref (a_t_state 0), .ref (a_t_state 1), .ref (a_t_state 2), .ref (a_t_state 3), .int (o_t_state 4 0), .int (o_t_state 5 0), .int (o_t_state 6 0)])), (a_t_state 3, .inl (cA 4, 3, .inr (.inr (.inr (.inr (bk (a_t_state 20) (a_t_state 21) (a_t_state 22))))))), ((a_t_state 0), .inr (10, [.int (o_t_state_wares 0 0), .ref (a_t_state_wares 1), .ref (a_t_state_wares 2), .ref (a_t_state_wares 3), .ref (a_t_state_wares 4)])), (a_t_state_wares 1, .inl (cA 0, 8, .inl (o_t_state_wares 1))), (a_t_state_wares 2, .inl (cA 0, 8, .inl (o_t_state_wares 2))), (a_t_state_wares 3, .inl (cA 0, 8, .inl (o_t_state_wares 3))), (a_t_state_wares 4, .inl (cA 0, 8, .inl (o_t_state_wares 4))), ((a_t_state 1), .inr (8, [.int (o_t_state_shelf 0 0), .int (o_t_state_shelf 1 0), .int (o_t_state_shelf 2 0), .int (o_t_state_shelf 3 0), .ref (a_t_state_shelf 4), .ref (a_t_state_shelf 5), .ref (a_t_state_shelf 6)])), (a_t_state_shelf 4, .inl (cA 0, 8, .inl (o_t_state_shelf 4))), (a_t_state_shelf 5, .inl (cA 0, 8, .inl (o_t_state_shelf 5))), (a_t_state_shelf 6, .inl (cA 1, 8, .inr (.inr (.inl (fun j => (o_t_state_shelf 6 j).toUInt32))))), ((a_t 10), .inr (7, [.int (o_t_toldRides 0 0), .ref (a_t_toldRides 1), .ref (a_t_toldRides 2), .ref (a_t_toldRides 3), .int (o_t_toldRides 4 0), .int (o_t_toldRides 5 0), .int (o_t_toldRides 6 0)])), (a_t_toldRides 1, .inl (cA 0, 8, .inl (o_t_toldRides 1))), (a_t_toldRides 2, .inl (cA 0, 256, .inl (o_t_toldRides 2))), (a_t_toldRides 3, .inl (cA 0, 256, .inl (o_t_toldRides 3)))]
set_option maxRecDepth 20000 in
theorem h_X11_rides_X11 : ∀ w ∈ wsX110, w ∈ wsX11_rides := by decide +kernel
set_option maxRecDepth 20000 in
theorem k_X11_rides_26 : ZF wsX11_rides RX11 26 11 2 RX11 TX11 15 := ⟨rfl, by decide, h_X11_rides_X11, by decide +kernel⟩
set_option maxRecDepth 20000 in
theorem k_X11_rides_77 : ZF wsX11_rides RX11 77 11 10 RX11 TX11 15 := ⟨rfl, by decide, h_X11_rides_X11, by decide +kernel⟩
set_option maxRecDepth 20000 in
theorem h_X11_rides_X9 : ∀ w ∈ wsX90, w ∈ wsX11_rides := by decide +kernel
set_option maxRecDepth 20000 in
theorem k_X11_rides_127 : ZF wsX11_rides RX11 127 9 0 RX9 TX9 7 := ⟨rfl, by decide, h_X11_rides_X9, by decide +kernel⟩
set_option maxRecDepth 20000 in
theorem k_X11_rides_160 : ZF wsX11_rides RX11 160 9 1 RX9 TX9 7 := ⟨rfl, by decide, h_X11_rides_X9, by decide +kernel⟩
set_option maxRecDepth 20000 in
theorem h_X11_rides_X7 : ∀ w ∈ wsX70, w ∈ wsX11_rides := by decide +kernel
set_option maxRecDepth 20000 in
theorem k_X11_rides_273 : ZF wsX11_rides RX11 273 7 0 RX7 TX7 7 := ⟨rfl, by decide, h_X11_rides_X7, by decide +kernel⟩
set_option maxHeartbeats 8000000 in
set_option maxRecDepth 100000 in
theorem c_X11_rides (l : Launch) (D : va_G) (cA : Nat → ClassId) (g : Nat → Nat) (sz : Nat) (h_t : Nat) (a_t : Nat → Nat) (o_t : Ob) (a_t_state : Nat → Nat) (o_t_state : Ob) (a_t_state_wares : Nat → Nat) (o_t_state_wares : Ob) (a_t_state_shelf : Nat → Nat) (o_t_state_shelf : Ob) (a_t_toldRides : Nat → Nat) (o_t_toldRides : Ob) (v1 : Int32) (v2 : Int32) (o_t_toldRides' : Ob) (rv : Int32) (hF : f_X11_rides o_t_state_wares o_t_state_shelf o_t_toldRides v1 v2 = some (o_t_toldRides', rv)) : Met l yX11_rides wsX11_rides ({ frames := 4, cells := 0, slots := 0, locals := 94 }) (va_Pc [.ref h_t, .int v1, .int v2] (PreW D cA g sz (w_X11_rides cA h_t a_t o_t a_t_state o_t_state a_t_state_wares o_t_state_wares a_t_state_shelf o_t_state_shelf a_t_toldRides o_t_toldRides))) (va_Qi (fun (r : Int32) (_ : Unit) => r = rv) (PostW D cA sz (w_X11_rides cA h_t a_t o_t a_t_state o_t_state a_t_state_wares o_t_state_wares a_t_state_shelf o_t_state_shelf a_t_toldRides o_t_toldRides) (w_X11_rides cA h_t a_t o_t a_t_state o_t_state a_t_state_wares o_t_state_wares a_t_state_shelf o_t_state_shelf a_t_toldRides o_t_toldRides')) (va_A (w_X11_rides cA h_t a_t o_t a_t_state o_t_state a_t_state_wares o_t_state_wares a_t_state_shelf o_t_state_shelf a_t_toldRides o_t_toldRides) sz)) 0 0 (va_A (w_X11_rides cA h_t a_t o_t a_t_state o_t_state a_t_state_wares o_t_state_wares a_t_state_shelf o_t_state_shelf a_t_toldRides o_t_toldRides) sz) := by
  refine z_start (cc := cX11_rides) (maxL := 3) (ret := (some .int)) (lv0 := [(0, .ref h_t), (1, .int v1), (2, .int v2)]) (Qc := fun sz => va_Qi (fun (r : Int32) (_ : Unit) => r = rv) (PostW D cA sz (w_X11_rides cA h_t a_t o_t a_t_state o_t_state a_t_state_wares o_t_state_wares a_t_state_shelf o_t_state_shelf a_t_toldRides o_t_toldRides) (w_X11_rides cA h_t a_t o_t a_t_state o_t_state a_t_state_wares o_t_state_wares a_t_state_shelf o_t_state_shelf a_t_toldRides o_t_toldRides')) (va_A (w_X11_rides cA h_t a_t o_t a_t_state o_t_state a_t_state_wares o_t_state_wares a_t_state_shelf o_t_state_shelf a_t_toldRides o_t_toldRides) sz)) (free := fun sz => va_A (w_X11_rides cA h_t a_t o_t a_t_state o_t_state a_t_state_wares o_t_state_wares a_t_state_shelf o_t_state_shelf a_t_toldRides o_t_toldRides) sz) (by decide +kernel) rfl rfl (Nat.le_of_ble_eq_true rfl) ?_
  intro p e R s m args below meth c A Q hR hA hQ X hr hin
  unfold f_X11_rides at hF
  refine z_aload_n X dX11_rides_0 rfl 0 rfl ?_
  refine z_iload_n X dX11_rides_1 rfl 1 rfl ?_
  refine z_iload_n X dX11_rides_2 rfl 2 rfl ?_
  obtain ⟨r1, hc2, hF⟩ := zb1_e hF
  refine z_Vi (As := [.int v1, .int v2]) (rest := []) (wc := (w_X11_item cA h_t a_t o_t a_t_state o_t_state a_t_state_wares o_t_state_wares a_t_state_shelf o_t_state_shelf)) (wc' := (w_X11_item cA h_t a_t o_t a_t_state o_t_state a_t_state_wares o_t_state_wares a_t_state_shelf o_t_state_shelf)) (ws' := (w_X11_rides cA h_t a_t o_t a_t_state o_t_state a_t_state_wares o_t_state_wares a_t_state_shelf o_t_state_shelf a_t_toldRides o_t_toldRides)) (rv := r1) X (cwV 2 X.2.2.2.2.1 gX11_rides_X11_canShift rfl rfl rfl (by decide +kernel) (by rw [hR]; exact ⟨Nat.le_of_ble_eq_true rfl, Nat.le_of_ble_eq_true rfl⟩)) (fun sz => c_X11_canShift l D cA g sz h_t a_t o_t a_t_state o_t_state a_t_state_wares o_t_state_wares a_t_state_shelf o_t_state_shelf v1 v2 r1 hc2) [0, 1, 2, 3, 4, 5, 6, 7, 8, 9, 10, 11, 12] [1000, 1001, 1002, 1003, 1004, 1005, 1006, 1007, 1008, 1009, 1010, 1011, 1012, 13, 14, 15, 16] rfl (by decide) rfl (by decide) rfl rfl rfl rfl rfl rfl (Nat.le_of_ble_eq_true rfl) dX11_rides_3 ⟨Nat.zero_le _, Nat.zero_le _⟩ ?_
  have hF := if_e hF
  refine z_if_ne (tgt := 11) X dX11_rides_6 (by decide) (fun c5 => ?_) (fun c5 => ?_)
  · have hF := hF.2 c5
    refine z_aload_n X dX11_rides_11 rfl 0 rfl ?_
    refine z_get (v := .ref (a_t 10)) X k_X11_rides_77 0 rfl rfl dX11_rides_12 ?_
    refine z_aload_n X dX11_rides_15 rfl 0 rfl ?_
    refine z_get (v := .ref (a_t 2)) X k_X11_rides_26 0 rfl rfl dX11_rides_16 ?_
    refine z_get (v := .ref (a_t_state 0)) X k_X11_rides_127 2 rfl rfl dX11_rides_19 ?_
    refine z_aload_n X dX11_rides_22 rfl 0 rfl ?_
    refine z_get (v := .ref (a_t 2)) X k_X11_rides_26 0 rfl rfl dX11_rides_23 ?_
    refine z_get (v := .ref (a_t_state 1)) X k_X11_rides_160 2 rfl rfl dX11_rides_26 ?_
    refine z_iload_n X dX11_rides_29 rfl 1 rfl ?_
    refine z_iload_n X dX11_rides_30 rfl 2 rfl ?_
    obtain ⟨o3, hc4, hF⟩ := zb1_e hF
    refine z_Vv (As := [.ref (a_t_state 0), .ref (a_t_state 1), .int v1, .int v2]) (rest := []) (wc := (w_X7_find cA (a_t 10) a_t_toldRides o_t_toldRides (a_t_state 0) a_t_state_wares o_t_state_wares (a_t_state 1) a_t_state_shelf o_t_state_shelf)) (wc' := (w_X7_find cA (a_t 10) a_t_toldRides o3 (a_t_state 0) a_t_state_wares o_t_state_wares (a_t_state 1) a_t_state_shelf o_t_state_shelf)) (ws' := (w_X11_rides cA h_t a_t o_t a_t_state o_t_state a_t_state_wares o_t_state_wares a_t_state_shelf o_t_state_shelf a_t_toldRides o3)) X (cwV 4 X.2.2.2.2.1 gX11_rides_X7_find rfl rfl rfl (by decide +kernel) (by rw [hR]; exact ⟨Nat.le_of_ble_eq_true rfl, Nat.le_of_ble_eq_true rfl⟩)) (fun sz => c_X7_find l D cA g sz (a_t 10) a_t_toldRides o_t_toldRides (a_t_state 0) a_t_state_wares o_t_state_wares (a_t_state 1) a_t_state_shelf o_t_state_shelf v1 v2 o3 hc4) [13, 14, 15, 16, 4, 5, 6, 7, 8, 9, 10, 11, 12] [0, 1, 2, 3, 1004, 1005, 1006, 1007, 1008, 1009, 1010, 1011, 1012, 1000, 1001, 1002, 1003] rfl (by decide) rfl (by decide) rfl rfl rfl rfl rfl rfl (Nat.le_of_ble_eq_true rfl) dX11_rides_31 ⟨Nat.zero_le _, Nat.zero_le _⟩ ?_
    refine z_aload_n X dX11_rides_34 rfl 0 rfl ?_
    refine z_get (v := .ref (a_t 10)) X k_X11_rides_77 0 rfl rfl dX11_rides_35 ?_
    refine z_get (v := .int (o3 0 0)) X k_X11_rides_273 13 rfl rfl dX11_rides_38 ?_
    cases hF
    exact z_iret X hA hQ hr rfl dX11_rides_41 (Nat.le_refl _) (Nat.le_refl _)
  · have hF := hF.1 c5
    refine z_iconst (v := (-1 : Int32)) X dX11_rides_9 (by decide) ?_
    cases hF
    exact z_iret X hA hQ hr rfl dX11_rides_10 (Nat.le_refl _) (Nat.le_refl _)
abbrev w_X11_ride (cA : Nat → ClassId) (h_t : Nat) (a_t : Nat → Nat) (o_t : Ob) (a_t_toldRides : Nat → Nat) (o_t_toldRides : Ob) : va_W := [(h_t, .inr (11, [.ref (a_t 0), .ref (a_t 1), .ref (a_t 2), .ref (a_t 3), .ref (a_t 4), .ref (a_t 5), .ref (a_t 6), .ref (a_t 7), .ref (a_t 8), .ref (a_t 9), .ref (a_t 10), .ref (a_t 11), .ref (a_t 12), .int (o_t 13 0), .int (o_t 14 0)])), (a_t 12, .inl (cA 0, 20, .inl (o_t 12))), ((a_t 10), .inr (7, [.int (o_t_toldRides 0 0), .ref (a_t_toldRides 1), .ref (a_t_toldRides 2), .ref (a_t_toldRides 3), .int (o_t_toldRides 4 0), .int (o_t_toldRides 5 0), .int (o_t_toldRides 6 0)])), (a_t_toldRides 1, .inl (cA 0, 8, .inl (o_t_toldRides 1))), (a_t_toldRides 2, .inl (cA 0, 256, .inl (o_t_toldRides 2))), (a_t_toldRides 3, .inl (cA 0, 256, .inl (o_t_toldRides 3)))]
set_option maxRecDepth 20000 in
theorem h_X11_ride_X11 : ∀ w ∈ wsX110, w ∈ wsX11_ride := by decide +kernel
set_option maxRecDepth 20000 in
theorem k_X11_ride_77 : ZF wsX11_ride RX11 77 11 10 RX11 TX11 15 := ⟨rfl, by decide, h_X11_ride_X11, by decide +kernel⟩
set_option maxRecDepth 20000 in
theorem h_X11_ride_X7 : ∀ w ∈ wsX70, w ∈ wsX11_ride := by decide +kernel
set_option maxRecDepth 20000 in
theorem k_X11_ride_273 : ZF wsX11_ride RX11 273 7 0 RX7 TX7 7 := ⟨rfl, by decide, h_X11_ride_X7, by decide +kernel⟩
set_option maxRecDepth 20000 in
theorem k_X11_ride_274 : ZF wsX11_ride RX11 274 7 1 RX7 TX7 7 := ⟨rfl, by decide, h_X11_ride_X7, by decide +kernel⟩
set_option maxHeartbeats 8000000 in
set_option maxRecDepth 100000 in
theorem c_X11_ride (l : Launch) (D : va_G) (cA : Nat → ClassId) (g : Nat → Nat) (sz : Nat) (h_t : Nat) (a_t : Nat → Nat) (o_t : Ob) (a_t_toldRides : Nat → Nat) (o_t_toldRides : Ob) (v1 : Int32) (rv : Int32) (hF : f_X11_ride o_t_toldRides v1 = some rv) : Met l yX11_ride wsX11_ride ({ frames := 0, cells := 0, slots := 0, locals := 0 }) (va_Pc [.ref h_t, .int v1] (PreW D cA g sz (w_X11_ride cA h_t a_t o_t a_t_toldRides o_t_toldRides))) (va_Qi (fun (r : Int32) (_ : Unit) => r = rv) (PostW D cA sz (w_X11_ride cA h_t a_t o_t a_t_toldRides o_t_toldRides) (w_X11_ride cA h_t a_t o_t a_t_toldRides o_t_toldRides)) (va_A (w_X11_ride cA h_t a_t o_t a_t_toldRides o_t_toldRides) sz)) 0 0 (va_A (w_X11_ride cA h_t a_t o_t a_t_toldRides o_t_toldRides) sz) := by
  refine z_start (cc := cX11_ride) (maxL := 2) (ret := (some .int)) (lv0 := [(0, .ref h_t), (1, .int v1)]) (Qc := fun sz => va_Qi (fun (r : Int32) (_ : Unit) => r = rv) (PostW D cA sz (w_X11_ride cA h_t a_t o_t a_t_toldRides o_t_toldRides) (w_X11_ride cA h_t a_t o_t a_t_toldRides o_t_toldRides)) (va_A (w_X11_ride cA h_t a_t o_t a_t_toldRides o_t_toldRides) sz)) (free := fun sz => va_A (w_X11_ride cA h_t a_t o_t a_t_toldRides o_t_toldRides) sz) (by decide +kernel) rfl rfl (Nat.le_of_ble_eq_true rfl) ?_
  intro p e R s m args below meth c A Q hR hA hQ X hr hin
  unfold f_X11_ride at hF
  refine z_iload_n X dX11_ride_0 rfl 1 rfl ?_
  have hF := if_e hF
  refine z_if_lt (tgt := 27) X dX11_ride_1 (by decide) (fun c3 => ?_) (fun c3 => ?_)
  · have hF := hF.1 c3
    refine z_iconst (v := (-1 : Int32)) X dX11_ride_27 (by decide) ?_
    cases hF
    exact z_iret X hA hQ hr rfl dX11_ride_28 (Nat.le_refl _) (Nat.le_refl _)
  · have hF := hF.2 c3
    refine z_iload_n X dX11_ride_4 rfl 1 rfl ?_
    refine z_aload_n X dX11_ride_5 rfl 0 rfl ?_
    refine z_get (v := .ref (a_t 10)) X k_X11_ride_77 0 rfl rfl dX11_ride_6 ?_
    refine z_get (v := .int (o_t_toldRides 0 0)) X k_X11_ride_273 2 rfl rfl dX11_ride_9 ?_
    have hF := if_e hF
    refine z_icmp_ge (tgt := 27) X dX11_ride_12 (by decide) (fun c2 => ?_) (fun c2 => ?_)
    · have hF := hF.1 c2
      refine z_iconst (v := (-1 : Int32)) X dX11_ride_27 (by decide) ?_
      cases hF
      exact z_iret X hA hQ hr rfl dX11_ride_28 (Nat.le_refl _) (Nat.le_refl _)
    · have hF := hF.2 c2
      refine z_aload_n X dX11_ride_15 rfl 0 rfl ?_
      refine z_get (v := .ref (a_t 10)) X k_X11_ride_77 0 rfl rfl dX11_ride_16 ?_
      refine z_get (v := .ref (a_t_toldRides 1)) X k_X11_ride_274 2 rfl rfl dX11_ride_19 ?_
      refine z_iload_n X dX11_ride_22 rfl 1 rfl ?_
      obtain ⟨g1, hF⟩ := gi_e hF
      refine z_iald X 3 rfl g1 dX11_ride_23 ?_
      refine z_goto (tgt := 28) X dX11_ride_24 (by decide) ?_
      cases hF
      exact z_iret X hA hQ hr rfl dX11_ride_28 (Nat.le_refl _) (Nat.le_refl _)
abbrev w_X11_moveAll (cA : Nat → ClassId) (h_t : Nat) (a_t : Nat → Nat) (o_t : Ob) (a_t_state : Nat → Nat) (o_t_state : Ob) (a_t_state_wares : Nat → Nat) (o_t_state_wares : Ob) (a_t_state_shelf : Nat → Nat) (o_t_state_shelf : Ob) (a_t_state_b0 : Nat → Nat) (o_t_state_b0 : Ob) (a_t_state_b1 : Nat → Nat) (o_t_state_b1 : Ob) (a_t_state_b2 : Nat → Nat) (o_t_state_b2 : Ob) (a_t_gates : Nat → Nat) (o_t_gates : Ob) (a_t_deeds : Nat → Nat) (o_t_deeds : Ob) : va_W := [(h_t, .inr (11, [.ref (a_t 0), .ref (a_t 1), .ref (a_t 2), .ref (a_t 3), .ref (a_t 4), .ref (a_t 5), .ref (a_t 6), .ref (a_t 7), .ref (a_t 8), .ref (a_t 9), .ref (a_t 10), .ref (a_t 11), .ref (a_t 12), .int (o_t 13 0), .int (o_t 14 0)])), (a_t 12, .inl (cA 0, 20, .inl (o_t 12))), ((a_t 2), .inr (9, [.ref (a_t_state 0), .ref (a_t_state 1), .ref (a_t_state 2), .ref (a_t_state 3), .int (o_t_state 4 0), .int (o_t_state 5 0), .int (o_t_state 6 0)])), (a_t_state 3, .inl (cA 4, 3, .inr (.inr (.inr (.inr (bk (a_t_state 20) (a_t_state 21) (a_t_state 22))))))), ((a_t_state 0), .inr (10, [.int (o_t_state_wares 0 0), .ref (a_t_state_wares 1), .ref (a_t_state_wares 2), .ref (a_t_state_wares 3), .ref (a_t_state_wares 4)])), (a_t_state_wares 1, .inl (cA 0, 8, .inl (o_t_state_wares 1))), (a_t_state_wares 2, .inl (cA 0, 8, .inl (o_t_state_wares 2))), (a_t_state_wares 3, .inl (cA 0, 8, .inl (o_t_state_wares 3))), (a_t_state_wares 4, .inl (cA 0, 8, .inl (o_t_state_wares 4))), ((a_t_state 1), .inr (8, [.int (o_t_state_shelf 0 0), .int (o_t_state_shelf 1 0), .int (o_t_state_shelf 2 0), .int (o_t_state_shelf 3 0), .ref (a_t_state_shelf 4), .ref (a_t_state_shelf 5), .ref (a_t_state_shelf 6)])), (a_t_state_shelf 4, .inl (cA 0, 8, .inl (o_t_state_shelf 4))), (a_t_state_shelf 5, .inl (cA 0, 8, .inl (o_t_state_shelf 5))), (a_t_state_shelf 6, .inl (cA 1, 8, .inr (.inr (.inl (fun j => (o_t_state_shelf 6 j).toUInt32))))), ((a_t_state 20), .inr (0, [.int (o_t_state_b0 0 0), .int (o_t_state_b0 1 0), .int (o_t_state_b0 2 0), .int (o_t_state_b0 3 0), .int (o_t_state_b0 4 0), .int (o_t_state_b0 5 0), .int (o_t_state_b0 6 0), .ref (a_t_state_b0 7), .ref (a_t_state_b0 8), .ref (a_t_state_b0 9)])), (a_t_state_b0 7, .inl (cA 0, 30, .inl (o_t_state_b0 7))), (a_t_state_b0 8, .inl (cA 0, 30, .inl (o_t_state_b0 8))), (a_t_state_b0 9, .inl (cA 0, 30, .inl (o_t_state_b0 9))), ((a_t_state 21), .inr (0, [.int (o_t_state_b1 0 0), .int (o_t_state_b1 1 0), .int (o_t_state_b1 2 0), .int (o_t_state_b1 3 0), .int (o_t_state_b1 4 0), .int (o_t_state_b1 5 0), .int (o_t_state_b1 6 0), .ref (a_t_state_b1 7), .ref (a_t_state_b1 8), .ref (a_t_state_b1 9)])), (a_t_state_b1 7, .inl (cA 0, 30, .inl (o_t_state_b1 7))), (a_t_state_b1 8, .inl (cA 0, 30, .inl (o_t_state_b1 8))), (a_t_state_b1 9, .inl (cA 0, 30, .inl (o_t_state_b1 9))), ((a_t_state 22), .inr (0, [.int (o_t_state_b2 0 0), .int (o_t_state_b2 1 0), .int (o_t_state_b2 2 0), .int (o_t_state_b2 3 0), .int (o_t_state_b2 4 0), .int (o_t_state_b2 5 0), .int (o_t_state_b2 6 0), .ref (a_t_state_b2 7), .ref (a_t_state_b2 8), .ref (a_t_state_b2 9)])), (a_t_state_b2 7, .inl (cA 0, 30, .inl (o_t_state_b2 7))), (a_t_state_b2 8, .inl (cA 0, 30, .inl (o_t_state_b2 8))), (a_t_state_b2 9, .inl (cA 0, 30, .inl (o_t_state_b2 9))), ((a_t 5), .inr (2, [.ref (a_t_gates 0), .int (o_t_gates 1 0), .int (o_t_gates 2 0)])), (a_t_gates 0, .inl (cA 0, 60, .inl (o_t_gates 0))), ((a_t 6), .inr (1, [.int (o_t_deeds 0 0), .ref (a_t_deeds 1), .ref (a_t_deeds 2), .ref (a_t_deeds 3)])), (a_t_deeds 1, .inl (cA 0, 9, .inl (o_t_deeds 1))), (a_t_deeds 2, .inl (cA 0, 9, .inl (o_t_deeds 2))), (a_t_deeds 3, .inl (cA 0, 9, .inl (o_t_deeds 3)))]
set_option maxRecDepth 20000 in
theorem h_X11_moveAll_X11 : ∀ w ∈ wsX110, w ∈ wsX11_moveAll := by decide +kernel
set_option maxRecDepth 20000 in
theorem k_X11_moveAll_26 : ZF wsX11_moveAll RX11 26 11 2 RX11 TX11 15 := ⟨rfl, by decide, h_X11_moveAll_X11, by decide +kernel⟩
set_option maxRecDepth 20000 in
theorem k_X11_moveAll_44 : ZF wsX11_moveAll RX11 44 11 5 RX11 TX11 15 := ⟨rfl, by decide, h_X11_moveAll_X11, by decide +kernel⟩
set_option maxRecDepth 20000 in
theorem k_X11_moveAll_51 : ZF wsX11_moveAll RX11 51 11 6 RX11 TX11 15 := ⟨rfl, by decide, h_X11_moveAll_X11, by decide +kernel⟩
set_option maxRecDepth 20000 in
theorem h_X11_moveAll_X10 : ∀ w ∈ wsX100, w ∈ wsX11_moveAll := by decide +kernel
set_option maxRecDepth 20000 in
theorem k_X11_moveAll_121 : ZF wsX11_moveAll RX11 121 10 0 RX10 TX10 5 := ⟨rfl, by decide, h_X11_moveAll_X10, by decide +kernel⟩
set_option maxRecDepth 20000 in
theorem h_X11_moveAll_X9 : ∀ w ∈ wsX90, w ∈ wsX11_moveAll := by decide +kernel
set_option maxRecDepth 20000 in
theorem k_X11_moveAll_127 : ZF wsX11_moveAll RX11 127 9 0 RX9 TX9 7 := ⟨rfl, by decide, h_X11_moveAll_X9, by decide +kernel⟩
set_option maxHeartbeats 8000000 in
set_option maxRecDepth 100000 in
theorem c_X11_moveAll (l : Launch) (D : va_G) (cA : Nat → ClassId) (g : Nat → Nat) (sz : Nat) (h_t : Nat) (a_t : Nat → Nat) (o_t : Ob) (a_t_state : Nat → Nat) (o_t_state : Ob) (a_t_state_wares : Nat → Nat) (o_t_state_wares : Ob) (a_t_state_shelf : Nat → Nat) (o_t_state_shelf : Ob) (a_t_state_b0 : Nat → Nat) (o_t_state_b0 : Ob) (a_t_state_b1 : Nat → Nat) (o_t_state_b1 : Ob) (a_t_state_b2 : Nat → Nat) (o_t_state_b2 : Ob) (a_t_gates : Nat → Nat) (o_t_gates : Ob) (a_t_deeds : Nat → Nat) (o_t_deeds : Ob) (v1 : Int32) (o_t_state' : Ob) (o_t_state_shelf' : Ob) (o_t_state_b0' : Ob) (o_t_state_b1' : Ob) (o_t_state_b2' : Ob) (o_t_gates' : Ob) (o_t_deeds' : Ob) (hF : f_X11_moveAll o_t_state o_t_state_wares o_t_state_shelf o_t_state_b0 o_t_state_b1 o_t_state_b2 o_t_gates o_t_deeds v1 = some (o_t_state', o_t_state_shelf', o_t_state_b0', o_t_state_b1', o_t_state_b2', o_t_gates', o_t_deeds')) : Met l yX11_moveAll wsX11_moveAll ({ frames := 4, cells := 0, slots := 0, locals := 92 }) (va_Pc [.ref h_t, .int v1] (PreW D cA g sz (w_X11_moveAll cA h_t a_t o_t a_t_state o_t_state a_t_state_wares o_t_state_wares a_t_state_shelf o_t_state_shelf a_t_state_b0 o_t_state_b0 a_t_state_b1 o_t_state_b1 a_t_state_b2 o_t_state_b2 a_t_gates o_t_gates a_t_deeds o_t_deeds))) (va_Qv (fun (_ : Unit) => True) (PostW D cA sz (w_X11_moveAll cA h_t a_t o_t a_t_state o_t_state a_t_state_wares o_t_state_wares a_t_state_shelf o_t_state_shelf a_t_state_b0 o_t_state_b0 a_t_state_b1 o_t_state_b1 a_t_state_b2 o_t_state_b2 a_t_gates o_t_gates a_t_deeds o_t_deeds) (w_X11_moveAll cA h_t a_t o_t a_t_state o_t_state' a_t_state_wares o_t_state_wares a_t_state_shelf o_t_state_shelf' a_t_state_b0 o_t_state_b0' a_t_state_b1 o_t_state_b1' a_t_state_b2 o_t_state_b2' a_t_gates o_t_gates' a_t_deeds o_t_deeds')) (va_A (w_X11_moveAll cA h_t a_t o_t a_t_state o_t_state a_t_state_wares o_t_state_wares a_t_state_shelf o_t_state_shelf a_t_state_b0 o_t_state_b0 a_t_state_b1 o_t_state_b1 a_t_state_b2 o_t_state_b2 a_t_gates o_t_gates a_t_deeds o_t_deeds) sz)) 0 0 (va_A (w_X11_moveAll cA h_t a_t o_t a_t_state o_t_state a_t_state_wares o_t_state_wares a_t_state_shelf o_t_state_shelf a_t_state_b0 o_t_state_b0 a_t_state_b1 o_t_state_b1 a_t_state_b2 o_t_state_b2 a_t_gates o_t_gates a_t_deeds o_t_deeds) sz) := by
  refine z_start (cc := cX11_moveAll) (maxL := 3) (ret := none) (lv0 := [(0, .ref h_t), (1, .int v1)]) (Qc := fun sz => va_Qv (fun (_ : Unit) => True) (PostW D cA sz (w_X11_moveAll cA h_t a_t o_t a_t_state o_t_state a_t_state_wares o_t_state_wares a_t_state_shelf o_t_state_shelf a_t_state_b0 o_t_state_b0 a_t_state_b1 o_t_state_b1 a_t_state_b2 o_t_state_b2 a_t_gates o_t_gates a_t_deeds o_t_deeds) (w_X11_moveAll cA h_t a_t o_t a_t_state o_t_state' a_t_state_wares o_t_state_wares a_t_state_shelf o_t_state_shelf' a_t_state_b0 o_t_state_b0' a_t_state_b1 o_t_state_b1' a_t_state_b2 o_t_state_b2' a_t_gates o_t_gates' a_t_deeds o_t_deeds')) (va_A (w_X11_moveAll cA h_t a_t o_t a_t_state o_t_state a_t_state_wares o_t_state_wares a_t_state_shelf o_t_state_shelf a_t_state_b0 o_t_state_b0 a_t_state_b1 o_t_state_b1 a_t_state_b2 o_t_state_b2 a_t_gates o_t_gates a_t_deeds o_t_deeds) sz)) (free := fun sz => va_A (w_X11_moveAll cA h_t a_t o_t a_t_state o_t_state a_t_state_wares o_t_state_wares a_t_state_shelf o_t_state_shelf a_t_state_b0 o_t_state_b0 a_t_state_b1 o_t_state_b1 a_t_state_b2 o_t_state_b2 a_t_gates o_t_gates a_t_deeds o_t_deeds) sz) (by decide +kernel) rfl rfl (Nat.le_of_ble_eq_true rfl) ?_
  intro p e R s m args below meth c A Q hR hA hQ X hr hin
  unfold f_X11_moveAll at hF
  refine z_iconst (v := (0 : Int32)) X dX11_moveAll_0 (by decide) ?_
  refine z_istore_n (lv' := [(2, .int (0 : Int32)), (0, .ref h_t), (1, .int v1)]) X dX11_moveAll_1 rfl (by decide) rfl ?_
  obtain ⟨o40, o41, o42, o43, o44, o45, o46, hL, hF⟩ := zb7_e hF
  have L47_x : ∀ (o40' : Ob) (o41' : Ob) (o42' : Ob) (o43' : Ob) (o44' : Ob) (o45' : Ob) (o46' : Ob), (o40', o41', o42', o43', o44', o45', o46') = (o40, o41, o42, o43, o44, o45, o46) → ZW p l e R s m args below meth c D A 3 0 0 Q (w_X11_moveAll cA h_t a_t o_t a_t_state o40' a_t_state_wares o_t_state_wares a_t_state_shelf o41' a_t_state_b0 o42' a_t_state_b1 o43' a_t_state_b2 o44' a_t_gates o45' a_t_deeds o46') [] 47 [] := by
    intro o40' o41' o42' o43' o44' o45' o46' hz
    cases hz
    cases hF
    exact z_vret X hA hQ hr dX11_moveAll_47 (Nat.le_refl _) (Nat.le_refl _)
  obtain ⟨B61, hBB61, hL⟩ := zl8_b hL
  have L47 : ∀ (n : Nat) (o32 : Ob) (o33 : Ob) (o34 : Ob) (o35 : Ob) (o36 : Ob) (o37 : Ob) (o38 : Ob) (k39 : Int32), zl8 B61 n o32 o33 o34 o35 o36 o37 o38 k39 = some (o40, o41, o42, o43, o44, o45, o46) → ZW p l e R s m args below meth c D A 3 0 0 Q (w_X11_moveAll cA h_t a_t o_t a_t_state o32 a_t_state_wares o_t_state_wares a_t_state_shelf o33 a_t_state_b0 o34 a_t_state_b1 o35 a_t_state_b2 o36 a_t_gates o37 a_t_deeds o38) [(0, .ref h_t), (1, .int v1), (2, .int k39)] 2 [] := by
    intro n
    induction n with
    | zero => intro o32 o33 o34 o35 o36 o37 o38 k39 hL; cases hL
    | succ n ih =>
      intro o32 o33 o34 o35 o36 o37 o38 k39 hL
      obtain ⟨zz48, hF, hL⟩ := zl8_e hL
      rw [hBB61] at hF
      refine z_iload_n X dX11_moveAll_2 rfl 2 rfl ?_
      refine z_aload_n X dX11_moveAll_3 rfl 0 rfl ?_
      refine z_get (v := .ref (a_t 2)) X k_X11_moveAll_26 0 rfl rfl dX11_moveAll_4 ?_
      refine z_get (v := .ref (a_t_state 0)) X k_X11_moveAll_127 2 rfl rfl dX11_moveAll_7 ?_
      refine z_get (v := .int (o_t_state_wares 0 0)) X k_X11_moveAll_121 4 rfl rfl dX11_moveAll_10 ?_
      have hF := if_e hF
      refine z_icmp_ge (tgt := 47) X dX11_moveAll_13 (by decide) (fun c60 => ?_) (fun c60 => ?_)
      · have hF := hF.1 c60
        cases hF
        have hL := Option.some.inj hL
        refine z_lv (lv' := []) [] rfl ?_
        exact L47_x o32 o33 o34 o35 o36 o37 o38 hL
      · have hF := hF.2 c60
        refine z_iload_n X dX11_moveAll_16 rfl 1 rfl ?_
        refine z_iload_n X dX11_moveAll_17 rfl 2 rfl ?_
        refine z_ishr X dX11_moveAll_18 ?_
        refine z_iconst (v := (1 : Int32)) X dX11_moveAll_19 (by decide) ?_
        refine z_iand X dX11_moveAll_20 ?_
        refine z_iconst (v := (1 : Int32)) X dX11_moveAll_21 (by decide) ?_
        have hF := if_e hF
        refine z_icmp_ne (tgt := 41) X dX11_moveAll_22 (by decide) (fun c59 => ?_) (fun c59 => ?_)
        · have hF := hF.2 c59
          obtain ⟨x49, ex49, hF⟩ := nx_e hF
          refine z_iinc (v := x49) (lv' := [(2, .int x49), (0, .ref h_t), (1, .int v1)]) (j := 2) X dX11_moveAll_41 rfl (by rw [ex49]; rfl) (by decide) rfl ?_
          refine z_goto (tgt := 2) X dX11_moveAll_44 (by decide) ?_
          cases hF
          refine z_lv (lv' := [(0, .ref h_t), (1, .int v1), (2, .int x49)]) [1, 2, 0] rfl ?_
          exact ih o32 o33 o34 o35 o36 o37 o38 x49 hL
        · have hF := hF.1 c59
          refine z_aload_n X dX11_moveAll_25 rfl 0 rfl ?_
          refine z_get (v := .ref (a_t 2)) X k_X11_moveAll_26 0 rfl rfl dX11_moveAll_26 ?_
          refine z_iload_n X dX11_moveAll_29 rfl 2 rfl ?_
          refine z_aload_n X dX11_moveAll_30 rfl 0 rfl ?_
          refine z_get (v := .ref (a_t 6)) X k_X11_moveAll_51 0 rfl rfl dX11_moveAll_31 ?_
          refine z_aload_n X dX11_moveAll_34 rfl 0 rfl ?_
          refine z_get (v := .ref (a_t 5)) X k_X11_moveAll_44 0 rfl rfl dX11_moveAll_35 ?_
          obtain ⟨o50, o51, o52, o53, o54, o55, o56, hc57, hF⟩ := zb7_e hF
          refine z_Vv (As := [.int k39, .ref (a_t 6), .ref (a_t 5)]) (rest := []) (wc := (w_X9_move cA (a_t 2) a_t_state o32 a_t_state_wares o_t_state_wares a_t_state_shelf o33 a_t_state_b0 o34 a_t_state_b1 o35 a_t_state_b2 o36 (a_t 6) a_t_deeds o38 (a_t 5) a_t_gates o37)) (wc' := (w_X9_move cA (a_t 2) a_t_state o50 a_t_state_wares o_t_state_wares a_t_state_shelf o51 a_t_state_b0 o52 a_t_state_b1 o53 a_t_state_b2 o54 (a_t 6) a_t_deeds o55 (a_t 5) a_t_gates o56)) (ws' := (w_X11_moveAll cA h_t a_t o_t a_t_state o50 a_t_state_wares o_t_state_wares a_t_state_shelf o51 a_t_state_b0 o52 a_t_state_b1 o53 a_t_state_b2 o54 a_t_gates o56 a_t_deeds o55)) X (cwV 3 X.2.2.2.2.1 gX11_moveAll_X9_move rfl rfl rfl (by decide +kernel) (by rw [hR]; exact ⟨Nat.le_of_ble_eq_true rfl, Nat.le_of_ble_eq_true rfl⟩)) (fun sz => c_X9_move l D cA g sz (a_t 2) a_t_state o32 a_t_state_wares o_t_state_wares a_t_state_shelf o33 a_t_state_b0 o34 a_t_state_b1 o35 a_t_state_b2 o36 (a_t 6) a_t_deeds o38 (a_t 5) a_t_gates o37 k39 o50 o51 o52 o53 o54 o55 o56 hc57) [2, 3, 4, 5, 6, 7, 8, 9, 10, 11, 12, 13, 14, 15, 16, 17, 18, 19, 20, 21, 22, 23, 24, 27, 28, 29, 30, 25, 26] [0, 1, 1000, 1001, 1002, 1003, 1004, 1005, 1006, 1007, 1008, 1009, 1010, 1011, 1012, 1013, 1014, 1015, 1016, 1017, 1018, 1019, 1020, 1021, 1022, 1027, 1028, 1023, 1024, 1025, 1026] rfl (by decide) rfl (by decide) rfl rfl rfl rfl rfl rfl (Nat.le_of_ble_eq_true rfl) dX11_moveAll_38 ⟨Nat.zero_le _, Nat.zero_le _⟩ ?_
          obtain ⟨x58, ex58, hF⟩ := nx_e hF
          refine z_iinc (v := x58) (lv' := [(2, .int x58), (0, .ref h_t), (1, .int v1)]) (j := 2) X dX11_moveAll_41 rfl (by rw [ex58]; rfl) (by decide) rfl ?_
          refine z_goto (tgt := 2) X dX11_moveAll_44 (by decide) ?_
          cases hF
          refine z_lv (lv' := [(0, .ref h_t), (1, .int v1), (2, .int x58)]) [1, 2, 0] rfl ?_
          exact ih o50 o51 o52 o53 o54 o56 o55 x58 hL
  refine z_lv (lv' := [(0, .ref h_t), (1, .int v1), (2, .int (0 : Int32))]) [1, 2, 0] rfl ?_
  exact L47 FU o_t_state o_t_state_shelf o_t_state_b0 o_t_state_b1 o_t_state_b2 o_t_gates o_t_deeds (0 : Int32) hL
abbrev w_X11_book (cA : Nat → ClassId) (h_t : Nat) (a_t : Nat → Nat) (o_t : Ob) (a_t_state : Nat → Nat) (o_t_state : Ob) (a_t_state_b0 : Nat → Nat) (o_t_state_b0 : Ob) (a_t_state_b1 : Nat → Nat) (o_t_state_b1 : Ob) (a_t_state_b2 : Nat → Nat) (o_t_state_b2 : Ob) : va_W := [(h_t, .inr (11, [.ref (a_t 0), .ref (a_t 1), .ref (a_t 2), .ref (a_t 3), .ref (a_t 4), .ref (a_t 5), .ref (a_t 6), .ref (a_t 7), .ref (a_t 8), .ref (a_t 9), .ref (a_t 10), .ref (a_t 11), .ref (a_t 12), .int (o_t 13 0), .int (o_t 14 0)])), (a_t 12, .inl (cA 0, 20, .inl (o_t 12))), ((a_t 2), .inr (9, [.ref (a_t_state 0), .ref (a_t_state 1), .ref (a_t_state 2), .ref (a_t_state 3), .int (o_t_state 4 0), .int (o_t_state 5 0), .int (o_t_state 6 0)])), (a_t_state 3, .inl (cA 4, 3, .inr (.inr (.inr (.inr (bk (a_t_state 20) (a_t_state 21) (a_t_state 22))))))), ((a_t_state 20), .inr (0, [.int (o_t_state_b0 0 0), .int (o_t_state_b0 1 0), .int (o_t_state_b0 2 0), .int (o_t_state_b0 3 0), .int (o_t_state_b0 4 0), .int (o_t_state_b0 5 0), .int (o_t_state_b0 6 0), .ref (a_t_state_b0 7), .ref (a_t_state_b0 8), .ref (a_t_state_b0 9)])), (a_t_state_b0 7, .inl (cA 0, 30, .inl (o_t_state_b0 7))), (a_t_state_b0 8, .inl (cA 0, 30, .inl (o_t_state_b0 8))), (a_t_state_b0 9, .inl (cA 0, 30, .inl (o_t_state_b0 9))), ((a_t_state 21), .inr (0, [.int (o_t_state_b1 0 0), .int (o_t_state_b1 1 0), .int (o_t_state_b1 2 0), .int (o_t_state_b1 3 0), .int (o_t_state_b1 4 0), .int (o_t_state_b1 5 0), .int (o_t_state_b1 6 0), .ref (a_t_state_b1 7), .ref (a_t_state_b1 8), .ref (a_t_state_b1 9)])), (a_t_state_b1 7, .inl (cA 0, 30, .inl (o_t_state_b1 7))), (a_t_state_b1 8, .inl (cA 0, 30, .inl (o_t_state_b1 8))), (a_t_state_b1 9, .inl (cA 0, 30, .inl (o_t_state_b1 9))), ((a_t_state 22), .inr (0, [.int (o_t_state_b2 0 0), .int (o_t_state_b2 1 0), .int (o_t_state_b2 2 0), .int (o_t_state_b2 3 0), .int (o_t_state_b2 4 0), .int (o_t_state_b2 5 0), .int (o_t_state_b2 6 0), .ref (a_t_state_b2 7), .ref (a_t_state_b2 8), .ref (a_t_state_b2 9)])), (a_t_state_b2 7, .inl (cA 0, 30, .inl (o_t_state_b2 7))), (a_t_state_b2 8, .inl (cA 0, 30, .inl (o_t_state_b2 8))), (a_t_state_b2 9, .inl (cA 0, 30, .inl (o_t_state_b2 9)))]
set_option maxRecDepth 20000 in
theorem h_X11_book_X11 : ∀ w ∈ wsX110, w ∈ wsX11_book := by decide +kernel
set_option maxRecDepth 20000 in
theorem k_X11_book_26 : ZF wsX11_book RX11 26 11 2 RX11 TX11 15 := ⟨rfl, by decide, h_X11_book_X11, by decide +kernel⟩
set_option maxRecDepth 20000 in
theorem h_X11_book_X9 : ∀ w ∈ wsX90, w ∈ wsX11_book := by decide +kernel
set_option maxRecDepth 20000 in
theorem k_X11_book_280 : ZF wsX11_book RX11 280 9 3 RX9 TX9 7 := ⟨rfl, by decide, h_X11_book_X9, by decide +kernel⟩
set_option maxHeartbeats 8000000 in
set_option maxRecDepth 100000 in
theorem c_X11_book (l : Launch) (D : va_G) (cA : Nat → ClassId) (g : Nat → Nat) (sz : Nat) (h_t : Nat) (a_t : Nat → Nat) (o_t : Ob) (a_t_state : Nat → Nat) (o_t_state : Ob) (a_t_state_b0 : Nat → Nat) (o_t_state_b0 : Ob) (a_t_state_b1 : Nat → Nat) (o_t_state_b1 : Ob) (a_t_state_b2 : Nat → Nat) (o_t_state_b2 : Ob) (v1 : Int32) (v2 : Int32) (v3 : Int32) (o_t_state_b0' : Ob) (o_t_state_b1' : Ob) (o_t_state_b2' : Ob) (rv : Int32) (hF : f_X11_book o_t_state_b0 o_t_state_b1 o_t_state_b2 v1 v2 v3 = some (o_t_state_b0', o_t_state_b1', o_t_state_b2', rv)) : Met l yX11_book wsX11_book ({ frames := 1, cells := 0, slots := 0, locals := 22 }) (va_Pc [.ref h_t, .int v1, .int v2, .int v3] (PreW D cA g sz (w_X11_book cA h_t a_t o_t a_t_state o_t_state a_t_state_b0 o_t_state_b0 a_t_state_b1 o_t_state_b1 a_t_state_b2 o_t_state_b2))) (va_Qi (fun (r : Int32) (_ : Unit) => r = rv) (PostW D cA sz (w_X11_book cA h_t a_t o_t a_t_state o_t_state a_t_state_b0 o_t_state_b0 a_t_state_b1 o_t_state_b1 a_t_state_b2 o_t_state_b2) (w_X11_book cA h_t a_t o_t a_t_state o_t_state a_t_state_b0 o_t_state_b0' a_t_state_b1 o_t_state_b1' a_t_state_b2 o_t_state_b2')) (va_A (w_X11_book cA h_t a_t o_t a_t_state o_t_state a_t_state_b0 o_t_state_b0 a_t_state_b1 o_t_state_b1 a_t_state_b2 o_t_state_b2) sz)) 0 0 (va_A (w_X11_book cA h_t a_t o_t a_t_state o_t_state a_t_state_b0 o_t_state_b0 a_t_state_b1 o_t_state_b1 a_t_state_b2 o_t_state_b2) sz) := by
  refine z_start (cc := cX11_book) (maxL := 4) (ret := (some .int)) (lv0 := [(0, .ref h_t), (1, .int v1), (2, .int v2), (3, .int v3)]) (Qc := fun sz => va_Qi (fun (r : Int32) (_ : Unit) => r = rv) (PostW D cA sz (w_X11_book cA h_t a_t o_t a_t_state o_t_state a_t_state_b0 o_t_state_b0 a_t_state_b1 o_t_state_b1 a_t_state_b2 o_t_state_b2) (w_X11_book cA h_t a_t o_t a_t_state o_t_state a_t_state_b0 o_t_state_b0' a_t_state_b1 o_t_state_b1' a_t_state_b2 o_t_state_b2')) (va_A (w_X11_book cA h_t a_t o_t a_t_state o_t_state a_t_state_b0 o_t_state_b0 a_t_state_b1 o_t_state_b1 a_t_state_b2 o_t_state_b2) sz)) (free := fun sz => va_A (w_X11_book cA h_t a_t o_t a_t_state o_t_state a_t_state_b0 o_t_state_b0 a_t_state_b1 o_t_state_b1 a_t_state_b2 o_t_state_b2) sz) (by decide +kernel) rfl rfl (Nat.le_of_ble_eq_true rfl) ?_
  intro p e R s m args below meth c A Q hR hA hQ X hr hin
  unfold f_X11_book at hF
  refine z_iload_n X dX11_book_0 rfl 1 rfl ?_
  have hF := if_e hF
  refine z_if_lt (tgt := 28) X dX11_book_1 (by decide) (fun c14 => ?_) (fun c14 => ?_)
  · have hF := hF.1 c14
    refine z_iconst (v := (-1 : Int32)) X dX11_book_28 (by decide) ?_
    cases hF
    exact z_iret X hA hQ hr rfl dX11_book_29 (Nat.le_refl _) (Nat.le_refl _)
  · have hF := hF.2 c14
    refine z_iload_n X dX11_book_4 rfl 1 rfl ?_
    refine z_iconst (v := (3 : Int32)) X dX11_book_5 (by decide) ?_
    have hF := if_e hF
    refine z_icmp_ge (tgt := 28) X dX11_book_6 (by decide) (fun c13 => ?_) (fun c13 => ?_)
    · have hF := hF.1 c13
      refine z_iconst (v := (-1 : Int32)) X dX11_book_28 (by decide) ?_
      cases hF
      exact z_iret X hA hQ hr rfl dX11_book_29 (Nat.le_refl _) (Nat.le_refl _)
    · have hF := hF.2 c13
      refine z_iload_n X dX11_book_9 rfl 2 rfl ?_
      have hF := if_e hF
      refine z_if_lt (tgt := 28) X dX11_book_10 (by decide) (fun c12 => ?_) (fun c12 => ?_)
      · have hF := hF.1 c12
        refine z_iconst (v := (-1 : Int32)) X dX11_book_28 (by decide) ?_
        cases hF
        exact z_iret X hA hQ hr rfl dX11_book_29 (Nat.le_refl _) (Nat.le_refl _)
      · have hF := hF.2 c12
        refine z_iload_n X dX11_book_13 rfl 2 rfl ?_
        refine z_iconst (v := (3 : Int32)) X dX11_book_14 (by decide) ?_
        have hF := if_e hF
        refine z_icmp_gt (tgt := 28) X dX11_book_15 (by decide) (fun c11 => ?_) (fun c11 => ?_)
        · have hF := hF.1 c11
          refine z_iconst (v := (-1 : Int32)) X dX11_book_28 (by decide) ?_
          cases hF
          exact z_iret X hA hQ hr rfl dX11_book_29 (Nat.le_refl _) (Nat.le_refl _)
        · have hF := hF.2 c11
          refine z_iload_n X dX11_book_18 rfl 3 rfl ?_
          have hF := if_e hF
          refine z_if_lt (tgt := 28) X dX11_book_19 (by decide) (fun c10 => ?_) (fun c10 => ?_)
          · have hF := hF.1 c10
            refine z_iconst (v := (-1 : Int32)) X dX11_book_28 (by decide) ?_
            cases hF
            exact z_iret X hA hQ hr rfl dX11_book_29 (Nat.le_refl _) (Nat.le_refl _)
          · have hF := hF.2 c10
            refine z_iload_n X dX11_book_22 rfl 3 rfl ?_
            refine z_bipush (v := (30 : Int32)) X dX11_book_23 (by decide) ?_
            have hF := if_e hF
            refine z_icmp_le (tgt := 30) X dX11_book_25 (by decide) (fun c9 => ?_) (fun c9 => ?_)
            · have hF := hF.1 c9
              refine z_aload_n X dX11_book_30 rfl 0 rfl ?_
              refine z_get (v := .ref (a_t 2)) X k_X11_book_26 0 rfl rfl dX11_book_31 ?_
              refine z_get (v := .ref (a_t_state 3)) X k_X11_book_280 2 rfl rfl dX11_book_34 ?_
              refine z_iload_n X dX11_book_37 rfl 1 rfl ?_
              obtain ⟨g1, hF⟩ := gi_e hF
              have hF := if_e hF
              refine z_bk X 3 rfl g1 dX11_book_38 (fun c0c8 => ?_) (fun c0c8 c1c8 => ?_) (fun c0c8 c1c8 c2c8 => ?_)
              · have hF := hF.1 c0c8
                refine z_iload_n X dX11_book_39 rfl 2 rfl ?_
                refine z_iload_n X dX11_book_40 rfl 3 rfl ?_
                obtain ⟨o2, hc3, hF⟩ := zb1_e hF
                refine z_Vv (As := [.int v2, .int v3]) (rest := []) (wc := (w_X0_close cA (a_t_state 20) a_t_state_b0 o_t_state_b0)) (wc' := (w_X0_close cA (a_t_state 20) a_t_state_b0 o2)) (ws' := (w_X11_book cA h_t a_t o_t a_t_state o_t_state a_t_state_b0 o2 a_t_state_b1 o_t_state_b1 a_t_state_b2 o_t_state_b2)) X (cwV 2 X.2.2.2.2.1 gX11_book_X0_begin rfl rfl rfl (by decide +kernel) (by rw [hR]; exact ⟨Nat.le_of_ble_eq_true rfl, Nat.le_of_ble_eq_true rfl⟩)) (fun sz => c_X0_begin l D cA g sz (a_t_state 20) a_t_state_b0 o_t_state_b0 v2 v3 o2 hc3) [4, 5, 6, 7] [0, 1, 2, 3, 1000, 1001, 1002, 1003, 8, 9, 10, 11, 12, 13, 14, 15] rfl (by decide) rfl (by decide) rfl rfl rfl rfl rfl rfl (Nat.le_of_ble_eq_true rfl) dX11_book_41 ⟨Nat.zero_le _, Nat.zero_le _⟩ ?_
                refine z_iconst (v := (0 : Int32)) X dX11_book_44 (by decide) ?_
                cases hF
                exact z_iret X hA hQ hr rfl dX11_book_45 (Nat.le_refl _) (Nat.le_refl _)
              · have hF := (if_e (hF.2 c0c8)).1 c1c8
                refine z_iload_n X dX11_book_39 rfl 2 rfl ?_
                refine z_iload_n X dX11_book_40 rfl 3 rfl ?_
                obtain ⟨o4, hc5, hF⟩ := zb1_e hF
                refine z_Vv (As := [.int v2, .int v3]) (rest := []) (wc := (w_X0_close cA (a_t_state 21) a_t_state_b1 o_t_state_b1)) (wc' := (w_X0_close cA (a_t_state 21) a_t_state_b1 o4)) (ws' := (w_X11_book cA h_t a_t o_t a_t_state o_t_state a_t_state_b0 o_t_state_b0 a_t_state_b1 o4 a_t_state_b2 o_t_state_b2)) X (cwV 2 X.2.2.2.2.1 gX11_book_X0_begin rfl rfl rfl (by decide +kernel) (by rw [hR]; exact ⟨Nat.le_of_ble_eq_true rfl, Nat.le_of_ble_eq_true rfl⟩)) (fun sz => c_X0_begin l D cA g sz (a_t_state 21) a_t_state_b1 o_t_state_b1 v2 v3 o4 hc5) [8, 9, 10, 11] [0, 1, 2, 3, 4, 5, 6, 7, 1000, 1001, 1002, 1003, 12, 13, 14, 15] rfl (by decide) rfl (by decide) rfl rfl rfl rfl rfl rfl (Nat.le_of_ble_eq_true rfl) dX11_book_41 ⟨Nat.zero_le _, Nat.zero_le _⟩ ?_
                refine z_iconst (v := (0 : Int32)) X dX11_book_44 (by decide) ?_
                cases hF
                exact z_iret X hA hQ hr rfl dX11_book_45 (Nat.le_refl _) (Nat.le_refl _)
              · have hF := (if_e (hF.2 c0c8)).2 c1c8
                refine z_iload_n X dX11_book_39 rfl 2 rfl ?_
                refine z_iload_n X dX11_book_40 rfl 3 rfl ?_
                obtain ⟨o6, hc7, hF⟩ := zb1_e hF
                refine z_Vv (As := [.int v2, .int v3]) (rest := []) (wc := (w_X0_close cA (a_t_state 22) a_t_state_b2 o_t_state_b2)) (wc' := (w_X0_close cA (a_t_state 22) a_t_state_b2 o6)) (ws' := (w_X11_book cA h_t a_t o_t a_t_state o_t_state a_t_state_b0 o_t_state_b0 a_t_state_b1 o_t_state_b1 a_t_state_b2 o6)) X (cwV 2 X.2.2.2.2.1 gX11_book_X0_begin rfl rfl rfl (by decide +kernel) (by rw [hR]; exact ⟨Nat.le_of_ble_eq_true rfl, Nat.le_of_ble_eq_true rfl⟩)) (fun sz => c_X0_begin l D cA g sz (a_t_state 22) a_t_state_b2 o_t_state_b2 v2 v3 o6 hc7) [12, 13, 14, 15] [0, 1, 2, 3, 4, 5, 6, 7, 8, 9, 10, 11, 1000, 1001, 1002, 1003] rfl (by decide) rfl (by decide) rfl rfl rfl rfl rfl rfl (Nat.le_of_ble_eq_true rfl) dX11_book_41 ⟨Nat.zero_le _, Nat.zero_le _⟩ ?_
                refine z_iconst (v := (0 : Int32)) X dX11_book_44 (by decide) ?_
                cases hF
                exact z_iret X hA hQ hr rfl dX11_book_45 (Nat.le_refl _) (Nat.le_refl _)
            · have hF := hF.2 c9
              refine z_iconst (v := (-1 : Int32)) X dX11_book_28 (by decide) ?_
              cases hF
              exact z_iret X hA hQ hr rfl dX11_book_29 (Nat.le_refl _) (Nat.le_refl _)
set_option maxRecDepth 20000 in
theorem h_X11_booked_X11 : ∀ w ∈ wsX110, w ∈ wsX11_booked := by decide +kernel
set_option maxRecDepth 20000 in
theorem k_X11_booked_26 : ZF wsX11_booked RX11 26 11 2 RX11 TX11 15 := ⟨rfl, by decide, h_X11_booked_X11, by decide +kernel⟩
set_option maxRecDepth 20000 in
theorem h_X11_booked_X9 : ∀ w ∈ wsX90, w ∈ wsX11_booked := by decide +kernel
set_option maxRecDepth 20000 in
theorem k_X11_booked_280 : ZF wsX11_booked RX11 280 9 3 RX9 TX9 7 := ⟨rfl, by decide, h_X11_booked_X9, by decide +kernel⟩
set_option maxRecDepth 20000 in
theorem h_X11_booked_X0 : ∀ w ∈ wsX00, w ∈ wsX11_booked := by decide +kernel
set_option maxRecDepth 20000 in
theorem k_X11_booked_287 : ZF wsX11_booked RX11 287 0 0 RX0 TX0 10 := ⟨rfl, by decide, h_X11_booked_X0, by decide +kernel⟩
set_option maxRecDepth 20000 in
theorem k_X11_booked_291 : ZF wsX11_booked RX11 291 0 3 RX0 TX0 10 := ⟨rfl, by decide, h_X11_booked_X0, by decide +kernel⟩
set_option maxRecDepth 20000 in
theorem k_X11_booked_294 : ZF wsX11_booked RX11 294 0 4 RX0 TX0 10 := ⟨rfl, by decide, h_X11_booked_X0, by decide +kernel⟩
set_option maxRecDepth 20000 in
theorem k_X11_booked_297 : ZF wsX11_booked RX11 297 0 5 RX0 TX0 10 := ⟨rfl, by decide, h_X11_booked_X0, by decide +kernel⟩
set_option maxRecDepth 20000 in
theorem k_X11_booked_300 : ZF wsX11_booked RX11 300 0 6 RX0 TX0 10 := ⟨rfl, by decide, h_X11_booked_X0, by decide +kernel⟩
set_option maxRecDepth 20000 in
theorem k_X11_booked_303 : ZF wsX11_booked RX11 303 0 1 RX0 TX0 10 := ⟨rfl, by decide, h_X11_booked_X0, by decide +kernel⟩
set_option maxRecDepth 20000 in
theorem k_X11_booked_306 : ZF wsX11_booked RX11 306 0 2 RX0 TX0 10 := ⟨rfl, by decide, h_X11_booked_X0, by decide +kernel⟩
set_option maxHeartbeats 8000000 in
set_option maxRecDepth 100000 in
theorem c_X11_booked (l : Launch) (D : va_G) (cA : Nat → ClassId) (g : Nat → Nat) (sz : Nat) (h_t : Nat) (a_t : Nat → Nat) (o_t : Ob) (a_t_state : Nat → Nat) (o_t_state : Ob) (a_t_state_b0 : Nat → Nat) (o_t_state_b0 : Ob) (a_t_state_b1 : Nat → Nat) (o_t_state_b1 : Ob) (a_t_state_b2 : Nat → Nat) (o_t_state_b2 : Ob) (v1 : Int32) (v2 : Int32) (rv : Int32) (hF : f_X11_booked o_t_state_b0 o_t_state_b1 o_t_state_b2 v1 v2 = some rv) : Met l yX11_booked wsX11_booked ({ frames := 0, cells := 0, slots := 0, locals := 0 }) (va_Pc [.ref h_t, .int v1, .int v2] (PreW D cA g sz (w_X11_book cA h_t a_t o_t a_t_state o_t_state a_t_state_b0 o_t_state_b0 a_t_state_b1 o_t_state_b1 a_t_state_b2 o_t_state_b2))) (va_Qi (fun (r : Int32) (_ : Unit) => r = rv) (PostW D cA sz (w_X11_book cA h_t a_t o_t a_t_state o_t_state a_t_state_b0 o_t_state_b0 a_t_state_b1 o_t_state_b1 a_t_state_b2 o_t_state_b2) (w_X11_book cA h_t a_t o_t a_t_state o_t_state a_t_state_b0 o_t_state_b0 a_t_state_b1 o_t_state_b1 a_t_state_b2 o_t_state_b2)) (va_A (w_X11_book cA h_t a_t o_t a_t_state o_t_state a_t_state_b0 o_t_state_b0 a_t_state_b1 o_t_state_b1 a_t_state_b2 o_t_state_b2) sz)) 0 0 (va_A (w_X11_book cA h_t a_t o_t a_t_state o_t_state a_t_state_b0 o_t_state_b0 a_t_state_b1 o_t_state_b1 a_t_state_b2 o_t_state_b2) sz) := by
  refine z_start (cc := cX11_booked) (maxL := 4) (ret := (some .int)) (lv0 := [(0, .ref h_t), (1, .int v1), (2, .int v2)]) (Qc := fun sz => va_Qi (fun (r : Int32) (_ : Unit) => r = rv) (PostW D cA sz (w_X11_book cA h_t a_t o_t a_t_state o_t_state a_t_state_b0 o_t_state_b0 a_t_state_b1 o_t_state_b1 a_t_state_b2 o_t_state_b2) (w_X11_book cA h_t a_t o_t a_t_state o_t_state a_t_state_b0 o_t_state_b0 a_t_state_b1 o_t_state_b1 a_t_state_b2 o_t_state_b2)) (va_A (w_X11_book cA h_t a_t o_t a_t_state o_t_state a_t_state_b0 o_t_state_b0 a_t_state_b1 o_t_state_b1 a_t_state_b2 o_t_state_b2) sz)) (free := fun sz => va_A (w_X11_book cA h_t a_t o_t a_t_state o_t_state a_t_state_b0 o_t_state_b0 a_t_state_b1 o_t_state_b1 a_t_state_b2 o_t_state_b2) sz) (by decide +kernel) rfl rfl (Nat.le_of_ble_eq_true rfl) ?_
  intro p e R s m args below meth c A Q hR hA hQ X hr hin
  unfold f_X11_booked at hF
  refine z_iload_n X dX11_booked_0 rfl 1 rfl ?_
  have hF := if_e hF
  refine z_if_lt (tgt := 24) X dX11_booked_1 (by decide) (fun c25 => ?_) (fun c25 => ?_)
  · have hF := hF.1 c25
    refine z_iconst (v := (-1 : Int32)) X dX11_booked_24 (by decide) ?_
    cases hF
    exact z_iret X hA hQ hr rfl dX11_booked_25 (Nat.le_refl _) (Nat.le_refl _)
  · have hF := hF.2 c25
    refine z_iload_n X dX11_booked_4 rfl 1 rfl ?_
    refine z_iconst (v := (3 : Int32)) X dX11_booked_5 (by decide) ?_
    have hF := if_e hF
    refine z_icmp_ge (tgt := 24) X dX11_booked_6 (by decide) (fun c24 => ?_) (fun c24 => ?_)
    · have hF := hF.1 c24
      refine z_iconst (v := (-1 : Int32)) X dX11_booked_24 (by decide) ?_
      cases hF
      exact z_iret X hA hQ hr rfl dX11_booked_25 (Nat.le_refl _) (Nat.le_refl _)
    · have hF := hF.2 c24
      refine z_aload_n X dX11_booked_9 rfl 0 rfl ?_
      refine z_get (v := .ref (a_t 2)) X k_X11_booked_26 0 rfl rfl dX11_booked_10 ?_
      refine z_get (v := .ref (a_t_state 3)) X k_X11_booked_280 2 rfl rfl dX11_booked_13 ?_
      refine z_iload_n X dX11_booked_16 rfl 1 rfl ?_
      obtain ⟨g1, hF⟩ := gi_e hF
      have hF := if_e hF
      refine z_bk X 3 rfl g1 dX11_booked_17 (fun c0c23 => ?_) (fun c0c23 c1c23 => ?_) (fun c0c23 c1c23 c2c23 => ?_)
      · have hF := hF.1 c0c23
        refine z_get (v := .int (o_t_state_b0 0 0)) X k_X11_booked_287 4 rfl rfl dX11_booked_18 ?_
        have hF := if_e hF
        refine z_if_ne (tgt := 26) X dX11_booked_21 (by decide) (fun c8 => ?_) (fun c8 => ?_)
        · have hF := hF.2 c8
          refine z_aload_n X dX11_booked_26 rfl 0 rfl ?_
          refine z_get (v := .ref (a_t 2)) X k_X11_booked_26 0 rfl rfl dX11_booked_27 ?_
          refine z_get (v := .ref (a_t_state 3)) X k_X11_booked_280 2 rfl rfl dX11_booked_30 ?_
          refine z_iload_n X dX11_booked_33 rfl 1 rfl ?_
          refine z_bk0 X 3 rfl (by first | assumption | omega) dX11_booked_34 ?_
          refine z_astore_n (lv' := [(3, .ref (a_t_state 20)), (0, .ref h_t), (1, .int v1), (2, .int v2)]) X dX11_booked_35 rfl (by decide) rfl ?_
          refine z_iload_n X dX11_booked_36 rfl 3 rfl ?_
          have hF := if_e hF
          by_cases c2 : v2 = (0 : Int32)
          · have hF := hF.1 c2
            refine z_tableIn (tgt := 76) X dX11_booked_37 (by rw [c2]; decide) (by rw [c2]; decide) (by rw [c2]; rfl) (by decide) ?_
            refine z_aload_n X dX11_booked_76 rfl 0 rfl ?_
            refine z_get (v := .int (o_t_state_b0 3 0)) X k_X11_booked_291 4 rfl rfl dX11_booked_77 ?_
            cases hF
            exact z_iret X hA hQ hr rfl dX11_booked_80 (Nat.le_refl _) (Nat.le_refl _)
          have hF := hF.2 c2
          have tc2 : Int32.toInt v2 ≠ 0 := ne_t c2
          have hF := if_e hF
          by_cases c3 : v2 = (1 : Int32)
          · have hF := hF.1 c3
            refine z_tableIn (tgt := 81) X dX11_booked_37 (by rw [c3]; decide) (by rw [c3]; decide) (by rw [c3]; rfl) (by decide) ?_
            refine z_aload_n X dX11_booked_81 rfl 0 rfl ?_
            refine z_get (v := .int (o_t_state_b0 4 0)) X k_X11_booked_294 4 rfl rfl dX11_booked_82 ?_
            cases hF
            exact z_iret X hA hQ hr rfl dX11_booked_85 (Nat.le_refl _) (Nat.le_refl _)
          have hF := hF.2 c3
          have tc3 : Int32.toInt v2 ≠ 1 := ne_t c3
          have hF := if_e hF
          by_cases c4 : v2 = (2 : Int32)
          · have hF := hF.1 c4
            refine z_tableIn (tgt := 86) X dX11_booked_37 (by rw [c4]; decide) (by rw [c4]; decide) (by rw [c4]; rfl) (by decide) ?_
            refine z_aload_n X dX11_booked_86 rfl 0 rfl ?_
            refine z_get (v := .int (o_t_state_b0 5 0)) X k_X11_booked_297 4 rfl rfl dX11_booked_87 ?_
            cases hF
            exact z_iret X hA hQ hr rfl dX11_booked_90 (Nat.le_refl _) (Nat.le_refl _)
          have hF := hF.2 c4
          have tc4 : Int32.toInt v2 ≠ 2 := ne_t c4
          have hF := if_e hF
          by_cases c5 : v2 = (3 : Int32)
          · have hF := hF.1 c5
            refine z_tableIn (tgt := 91) X dX11_booked_37 (by rw [c5]; decide) (by rw [c5]; decide) (by rw [c5]; rfl) (by decide) ?_
            refine z_aload_n X dX11_booked_91 rfl 0 rfl ?_
            refine z_get (v := .int (o_t_state_b0 6 0)) X k_X11_booked_300 4 rfl rfl dX11_booked_92 ?_
            cases hF
            exact z_iret X hA hQ hr rfl dX11_booked_95 (Nat.le_refl _) (Nat.le_refl _)
          have hF := hF.2 c5
          have tc5 : Int32.toInt v2 ≠ 3 := ne_t c5
          have hF := if_e hF
          by_cases c6 : v2 = (4 : Int32)
          · have hF := hF.1 c6
            refine z_tableIn (tgt := 96) X dX11_booked_37 (by rw [c6]; decide) (by rw [c6]; decide) (by rw [c6]; rfl) (by decide) ?_
            refine z_aload_n X dX11_booked_96 rfl 0 rfl ?_
            refine z_get (v := .int (o_t_state_b0 1 0)) X k_X11_booked_303 4 rfl rfl dX11_booked_97 ?_
            cases hF
            exact z_iret X hA hQ hr rfl dX11_booked_100 (Nat.le_refl _) (Nat.le_refl _)
          have hF := hF.2 c6
          have tc6 : Int32.toInt v2 ≠ 4 := ne_t c6
          have hF := if_e hF
          by_cases c7 : v2 = (5 : Int32)
          · have hF := hF.1 c7
            refine z_tableIn (tgt := 101) X dX11_booked_37 (by rw [c7]; decide) (by rw [c7]; decide) (by rw [c7]; rfl) (by decide) ?_
            refine z_aload_n X dX11_booked_101 rfl 0 rfl ?_
            refine z_get (v := .int (o_t_state_b0 2 0)) X k_X11_booked_306 4 rfl rfl dX11_booked_102 ?_
            cases hF
            exact z_iret X hA hQ hr rfl dX11_booked_105 (Nat.le_refl _) (Nat.le_refl _)
          have hF := hF.2 c7
          have tc7 : Int32.toInt v2 ≠ 5 := ne_t c7
          refine z_tableOut (tgt := 106) X dX11_booked_37 (by omega) (by decide) ?_
          refine z_iconst (v := (-1 : Int32)) X dX11_booked_106 (by decide) ?_
          cases hF
          exact z_iret X hA hQ hr rfl dX11_booked_107 (Nat.le_refl _) (Nat.le_refl _)
        · have hF := hF.1 c8
          refine z_iconst (v := (-1 : Int32)) X dX11_booked_24 (by decide) ?_
          cases hF
          exact z_iret X hA hQ hr rfl dX11_booked_25 (Nat.le_refl _) (Nat.le_refl _)
      · have hF := (if_e (hF.2 c0c23)).1 c1c23
        refine z_get (v := .int (o_t_state_b1 0 0)) X k_X11_booked_287 8 rfl rfl dX11_booked_18 ?_
        have hF := if_e hF
        refine z_if_ne (tgt := 26) X dX11_booked_21 (by decide) (fun c15 => ?_) (fun c15 => ?_)
        · have hF := hF.2 c15
          refine z_aload_n X dX11_booked_26 rfl 0 rfl ?_
          refine z_get (v := .ref (a_t 2)) X k_X11_booked_26 0 rfl rfl dX11_booked_27 ?_
          refine z_get (v := .ref (a_t_state 3)) X k_X11_booked_280 2 rfl rfl dX11_booked_30 ?_
          refine z_iload_n X dX11_booked_33 rfl 1 rfl ?_
          refine z_bk1 X 3 rfl (by first | assumption | omega) dX11_booked_34 ?_
          refine z_astore_n (lv' := [(3, .ref (a_t_state 21)), (0, .ref h_t), (1, .int v1), (2, .int v2)]) X dX11_booked_35 rfl (by decide) rfl ?_
          refine z_iload_n X dX11_booked_36 rfl 3 rfl ?_
          have hF := if_e hF
          by_cases c9 : v2 = (0 : Int32)
          · have hF := hF.1 c9
            refine z_tableIn (tgt := 76) X dX11_booked_37 (by rw [c9]; decide) (by rw [c9]; decide) (by rw [c9]; rfl) (by decide) ?_
            refine z_aload_n X dX11_booked_76 rfl 0 rfl ?_
            refine z_get (v := .int (o_t_state_b1 3 0)) X k_X11_booked_291 8 rfl rfl dX11_booked_77 ?_
            cases hF
            exact z_iret X hA hQ hr rfl dX11_booked_80 (Nat.le_refl _) (Nat.le_refl _)
          have hF := hF.2 c9
          have tc9 : Int32.toInt v2 ≠ 0 := ne_t c9
          have hF := if_e hF
          by_cases c10 : v2 = (1 : Int32)
          · have hF := hF.1 c10
            refine z_tableIn (tgt := 81) X dX11_booked_37 (by rw [c10]; decide) (by rw [c10]; decide) (by rw [c10]; rfl) (by decide) ?_
            refine z_aload_n X dX11_booked_81 rfl 0 rfl ?_
            refine z_get (v := .int (o_t_state_b1 4 0)) X k_X11_booked_294 8 rfl rfl dX11_booked_82 ?_
            cases hF
            exact z_iret X hA hQ hr rfl dX11_booked_85 (Nat.le_refl _) (Nat.le_refl _)
          have hF := hF.2 c10
          have tc10 : Int32.toInt v2 ≠ 1 := ne_t c10
          have hF := if_e hF
          by_cases c11 : v2 = (2 : Int32)
          · have hF := hF.1 c11
            refine z_tableIn (tgt := 86) X dX11_booked_37 (by rw [c11]; decide) (by rw [c11]; decide) (by rw [c11]; rfl) (by decide) ?_
            refine z_aload_n X dX11_booked_86 rfl 0 rfl ?_
            refine z_get (v := .int (o_t_state_b1 5 0)) X k_X11_booked_297 8 rfl rfl dX11_booked_87 ?_
            cases hF
            exact z_iret X hA hQ hr rfl dX11_booked_90 (Nat.le_refl _) (Nat.le_refl _)
          have hF := hF.2 c11
          have tc11 : Int32.toInt v2 ≠ 2 := ne_t c11
          have hF := if_e hF
          by_cases c12 : v2 = (3 : Int32)
          · have hF := hF.1 c12
            refine z_tableIn (tgt := 91) X dX11_booked_37 (by rw [c12]; decide) (by rw [c12]; decide) (by rw [c12]; rfl) (by decide) ?_
            refine z_aload_n X dX11_booked_91 rfl 0 rfl ?_
            refine z_get (v := .int (o_t_state_b1 6 0)) X k_X11_booked_300 8 rfl rfl dX11_booked_92 ?_
            cases hF
            exact z_iret X hA hQ hr rfl dX11_booked_95 (Nat.le_refl _) (Nat.le_refl _)
          have hF := hF.2 c12
          have tc12 : Int32.toInt v2 ≠ 3 := ne_t c12
          have hF := if_e hF
          by_cases c13 : v2 = (4 : Int32)
          · have hF := hF.1 c13
            refine z_tableIn (tgt := 96) X dX11_booked_37 (by rw [c13]; decide) (by rw [c13]; decide) (by rw [c13]; rfl) (by decide) ?_
            refine z_aload_n X dX11_booked_96 rfl 0 rfl ?_
            refine z_get (v := .int (o_t_state_b1 1 0)) X k_X11_booked_303 8 rfl rfl dX11_booked_97 ?_
            cases hF
            exact z_iret X hA hQ hr rfl dX11_booked_100 (Nat.le_refl _) (Nat.le_refl _)
          have hF := hF.2 c13
          have tc13 : Int32.toInt v2 ≠ 4 := ne_t c13
          have hF := if_e hF
          by_cases c14 : v2 = (5 : Int32)
          · have hF := hF.1 c14
            refine z_tableIn (tgt := 101) X dX11_booked_37 (by rw [c14]; decide) (by rw [c14]; decide) (by rw [c14]; rfl) (by decide) ?_
            refine z_aload_n X dX11_booked_101 rfl 0 rfl ?_
            refine z_get (v := .int (o_t_state_b1 2 0)) X k_X11_booked_306 8 rfl rfl dX11_booked_102 ?_
            cases hF
            exact z_iret X hA hQ hr rfl dX11_booked_105 (Nat.le_refl _) (Nat.le_refl _)
          have hF := hF.2 c14
          have tc14 : Int32.toInt v2 ≠ 5 := ne_t c14
          refine z_tableOut (tgt := 106) X dX11_booked_37 (by omega) (by decide) ?_
          refine z_iconst (v := (-1 : Int32)) X dX11_booked_106 (by decide) ?_
          cases hF
          exact z_iret X hA hQ hr rfl dX11_booked_107 (Nat.le_refl _) (Nat.le_refl _)
        · have hF := hF.1 c15
          refine z_iconst (v := (-1 : Int32)) X dX11_booked_24 (by decide) ?_
          cases hF
          exact z_iret X hA hQ hr rfl dX11_booked_25 (Nat.le_refl _) (Nat.le_refl _)
      · have hF := (if_e (hF.2 c0c23)).2 c1c23
        refine z_get (v := .int (o_t_state_b2 0 0)) X k_X11_booked_287 12 rfl rfl dX11_booked_18 ?_
        have hF := if_e hF
        refine z_if_ne (tgt := 26) X dX11_booked_21 (by decide) (fun c22 => ?_) (fun c22 => ?_)
        · have hF := hF.2 c22
          refine z_aload_n X dX11_booked_26 rfl 0 rfl ?_
          refine z_get (v := .ref (a_t 2)) X k_X11_booked_26 0 rfl rfl dX11_booked_27 ?_
          refine z_get (v := .ref (a_t_state 3)) X k_X11_booked_280 2 rfl rfl dX11_booked_30 ?_
          refine z_iload_n X dX11_booked_33 rfl 1 rfl ?_
          refine z_bk2 X 3 rfl (by first | assumption | omega) dX11_booked_34 ?_
          refine z_astore_n (lv' := [(3, .ref (a_t_state 22)), (0, .ref h_t), (1, .int v1), (2, .int v2)]) X dX11_booked_35 rfl (by decide) rfl ?_
          refine z_iload_n X dX11_booked_36 rfl 3 rfl ?_
          have hF := if_e hF
          by_cases c16 : v2 = (0 : Int32)
          · have hF := hF.1 c16
            refine z_tableIn (tgt := 76) X dX11_booked_37 (by rw [c16]; decide) (by rw [c16]; decide) (by rw [c16]; rfl) (by decide) ?_
            refine z_aload_n X dX11_booked_76 rfl 0 rfl ?_
            refine z_get (v := .int (o_t_state_b2 3 0)) X k_X11_booked_291 12 rfl rfl dX11_booked_77 ?_
            cases hF
            exact z_iret X hA hQ hr rfl dX11_booked_80 (Nat.le_refl _) (Nat.le_refl _)
          have hF := hF.2 c16
          have tc16 : Int32.toInt v2 ≠ 0 := ne_t c16
          have hF := if_e hF
          by_cases c17 : v2 = (1 : Int32)
          · have hF := hF.1 c17
            refine z_tableIn (tgt := 81) X dX11_booked_37 (by rw [c17]; decide) (by rw [c17]; decide) (by rw [c17]; rfl) (by decide) ?_
            refine z_aload_n X dX11_booked_81 rfl 0 rfl ?_
            refine z_get (v := .int (o_t_state_b2 4 0)) X k_X11_booked_294 12 rfl rfl dX11_booked_82 ?_
            cases hF
            exact z_iret X hA hQ hr rfl dX11_booked_85 (Nat.le_refl _) (Nat.le_refl _)
          have hF := hF.2 c17
          have tc17 : Int32.toInt v2 ≠ 1 := ne_t c17
          have hF := if_e hF
          by_cases c18 : v2 = (2 : Int32)
          · have hF := hF.1 c18
            refine z_tableIn (tgt := 86) X dX11_booked_37 (by rw [c18]; decide) (by rw [c18]; decide) (by rw [c18]; rfl) (by decide) ?_
            refine z_aload_n X dX11_booked_86 rfl 0 rfl ?_
            refine z_get (v := .int (o_t_state_b2 5 0)) X k_X11_booked_297 12 rfl rfl dX11_booked_87 ?_
            cases hF
            exact z_iret X hA hQ hr rfl dX11_booked_90 (Nat.le_refl _) (Nat.le_refl _)
          have hF := hF.2 c18
          have tc18 : Int32.toInt v2 ≠ 2 := ne_t c18
          have hF := if_e hF
          by_cases c19 : v2 = (3 : Int32)
          · have hF := hF.1 c19
            refine z_tableIn (tgt := 91) X dX11_booked_37 (by rw [c19]; decide) (by rw [c19]; decide) (by rw [c19]; rfl) (by decide) ?_
            refine z_aload_n X dX11_booked_91 rfl 0 rfl ?_
            refine z_get (v := .int (o_t_state_b2 6 0)) X k_X11_booked_300 12 rfl rfl dX11_booked_92 ?_
            cases hF
            exact z_iret X hA hQ hr rfl dX11_booked_95 (Nat.le_refl _) (Nat.le_refl _)
          have hF := hF.2 c19
          have tc19 : Int32.toInt v2 ≠ 3 := ne_t c19
          have hF := if_e hF
          by_cases c20 : v2 = (4 : Int32)
          · have hF := hF.1 c20
            refine z_tableIn (tgt := 96) X dX11_booked_37 (by rw [c20]; decide) (by rw [c20]; decide) (by rw [c20]; rfl) (by decide) ?_
            refine z_aload_n X dX11_booked_96 rfl 0 rfl ?_
            refine z_get (v := .int (o_t_state_b2 1 0)) X k_X11_booked_303 12 rfl rfl dX11_booked_97 ?_
            cases hF
            exact z_iret X hA hQ hr rfl dX11_booked_100 (Nat.le_refl _) (Nat.le_refl _)
          have hF := hF.2 c20
          have tc20 : Int32.toInt v2 ≠ 4 := ne_t c20
          have hF := if_e hF
          by_cases c21 : v2 = (5 : Int32)
          · have hF := hF.1 c21
            refine z_tableIn (tgt := 101) X dX11_booked_37 (by rw [c21]; decide) (by rw [c21]; decide) (by rw [c21]; rfl) (by decide) ?_
            refine z_aload_n X dX11_booked_101 rfl 0 rfl ?_
            refine z_get (v := .int (o_t_state_b2 2 0)) X k_X11_booked_306 12 rfl rfl dX11_booked_102 ?_
            cases hF
            exact z_iret X hA hQ hr rfl dX11_booked_105 (Nat.le_refl _) (Nat.le_refl _)
          have hF := hF.2 c21
          have tc21 : Int32.toInt v2 ≠ 5 := ne_t c21
          refine z_tableOut (tgt := 106) X dX11_booked_37 (by omega) (by decide) ?_
          refine z_iconst (v := (-1 : Int32)) X dX11_booked_106 (by decide) ?_
          cases hF
          exact z_iret X hA hQ hr rfl dX11_booked_107 (Nat.le_refl _) (Nat.le_refl _)
        · have hF := hF.1 c22
          refine z_iconst (v := (-1 : Int32)) X dX11_booked_24 (by decide) ?_
          cases hF
          exact z_iret X hA hQ hr rfl dX11_booked_25 (Nat.le_refl _) (Nat.le_refl _)
set_option maxRecDepth 20000 in
theorem h_X11_line_X11 : ∀ w ∈ wsX110, w ∈ wsX11_line := by decide +kernel
set_option maxRecDepth 20000 in
theorem k_X11_line_26 : ZF wsX11_line RX11 26 11 2 RX11 TX11 15 := ⟨rfl, by decide, h_X11_line_X11, by decide +kernel⟩
set_option maxRecDepth 20000 in
theorem h_X11_line_X9 : ∀ w ∈ wsX90, w ∈ wsX11_line := by decide +kernel
set_option maxRecDepth 20000 in
theorem k_X11_line_280 : ZF wsX11_line RX11 280 9 3 RX9 TX9 7 := ⟨rfl, by decide, h_X11_line_X9, by decide +kernel⟩
set_option maxRecDepth 20000 in
theorem h_X11_line_X0 : ∀ w ∈ wsX00, w ∈ wsX11_line := by decide +kernel
set_option maxRecDepth 20000 in
theorem k_X11_line_291 : ZF wsX11_line RX11 291 0 3 RX0 TX0 10 := ⟨rfl, by decide, h_X11_line_X0, by decide +kernel⟩
set_option maxRecDepth 20000 in
theorem k_X11_line_309 : ZF wsX11_line RX11 309 0 7 RX0 TX0 10 := ⟨rfl, by decide, h_X11_line_X0, by decide +kernel⟩
set_option maxRecDepth 20000 in
theorem k_X11_line_312 : ZF wsX11_line RX11 312 0 8 RX0 TX0 10 := ⟨rfl, by decide, h_X11_line_X0, by decide +kernel⟩
set_option maxRecDepth 20000 in
theorem k_X11_line_315 : ZF wsX11_line RX11 315 0 9 RX0 TX0 10 := ⟨rfl, by decide, h_X11_line_X0, by decide +kernel⟩
set_option maxHeartbeats 8000000 in
set_option maxRecDepth 100000 in
theorem c_X11_line (l : Launch) (D : va_G) (cA : Nat → ClassId) (g : Nat → Nat) (sz : Nat) (h_t : Nat) (a_t : Nat → Nat) (o_t : Ob) (a_t_state : Nat → Nat) (o_t_state : Ob) (a_t_state_b0 : Nat → Nat) (o_t_state_b0 : Ob) (a_t_state_b1 : Nat → Nat) (o_t_state_b1 : Ob) (a_t_state_b2 : Nat → Nat) (o_t_state_b2 : Ob) (v1 : Int32) (v2 : Int32) (v3 : Int32) (rv : Int32) (hF : f_X11_line o_t_state_b0 o_t_state_b1 o_t_state_b2 v1 v2 v3 = some rv) : Met l yX11_line wsX11_line ({ frames := 0, cells := 0, slots := 0, locals := 0 }) (va_Pc [.ref h_t, .int v1, .int v2, .int v3] (PreW D cA g sz (w_X11_book cA h_t a_t o_t a_t_state o_t_state a_t_state_b0 o_t_state_b0 a_t_state_b1 o_t_state_b1 a_t_state_b2 o_t_state_b2))) (va_Qi (fun (r : Int32) (_ : Unit) => r = rv) (PostW D cA sz (w_X11_book cA h_t a_t o_t a_t_state o_t_state a_t_state_b0 o_t_state_b0 a_t_state_b1 o_t_state_b1 a_t_state_b2 o_t_state_b2) (w_X11_book cA h_t a_t o_t a_t_state o_t_state a_t_state_b0 o_t_state_b0 a_t_state_b1 o_t_state_b1 a_t_state_b2 o_t_state_b2)) (va_A (w_X11_book cA h_t a_t o_t a_t_state o_t_state a_t_state_b0 o_t_state_b0 a_t_state_b1 o_t_state_b1 a_t_state_b2 o_t_state_b2) sz)) 0 0 (va_A (w_X11_book cA h_t a_t o_t a_t_state o_t_state a_t_state_b0 o_t_state_b0 a_t_state_b1 o_t_state_b1 a_t_state_b2 o_t_state_b2) sz) := by
  refine z_start (cc := cX11_line) (maxL := 4) (ret := (some .int)) (lv0 := [(0, .ref h_t), (1, .int v1), (2, .int v2), (3, .int v3)]) (Qc := fun sz => va_Qi (fun (r : Int32) (_ : Unit) => r = rv) (PostW D cA sz (w_X11_book cA h_t a_t o_t a_t_state o_t_state a_t_state_b0 o_t_state_b0 a_t_state_b1 o_t_state_b1 a_t_state_b2 o_t_state_b2) (w_X11_book cA h_t a_t o_t a_t_state o_t_state a_t_state_b0 o_t_state_b0 a_t_state_b1 o_t_state_b1 a_t_state_b2 o_t_state_b2)) (va_A (w_X11_book cA h_t a_t o_t a_t_state o_t_state a_t_state_b0 o_t_state_b0 a_t_state_b1 o_t_state_b1 a_t_state_b2 o_t_state_b2) sz)) (free := fun sz => va_A (w_X11_book cA h_t a_t o_t a_t_state o_t_state a_t_state_b0 o_t_state_b0 a_t_state_b1 o_t_state_b1 a_t_state_b2 o_t_state_b2) sz) (by decide +kernel) rfl rfl (Nat.le_of_ble_eq_true rfl) ?_
  intro p e R s m args below meth c A Q hR hA hQ X hr hin
  unfold f_X11_line at hF
  refine z_iload_n X dX11_line_0 rfl 1 rfl ?_
  have hF := if_e hF
  refine z_if_lt (tgt := 29) X dX11_line_1 (by decide) (fun c26 => ?_) (fun c26 => ?_)
  · have hF := hF.1 c26
    refine z_iconst (v := (-1 : Int32)) X dX11_line_29 (by decide) ?_
    cases hF
    exact z_iret X hA hQ hr rfl dX11_line_30 (Nat.le_refl _) (Nat.le_refl _)
  · have hF := hF.2 c26
    refine z_iload_n X dX11_line_4 rfl 1 rfl ?_
    refine z_iconst (v := (3 : Int32)) X dX11_line_5 (by decide) ?_
    have hF := if_e hF
    refine z_icmp_ge (tgt := 29) X dX11_line_6 (by decide) (fun c25 => ?_) (fun c25 => ?_)
    · have hF := hF.1 c25
      refine z_iconst (v := (-1 : Int32)) X dX11_line_29 (by decide) ?_
      cases hF
      exact z_iret X hA hQ hr rfl dX11_line_30 (Nat.le_refl _) (Nat.le_refl _)
    · have hF := hF.2 c25
      refine z_iload_n X dX11_line_9 rfl 2 rfl ?_
      have hF := if_e hF
      refine z_if_lt (tgt := 29) X dX11_line_10 (by decide) (fun c24 => ?_) (fun c24 => ?_)
      · have hF := hF.1 c24
        refine z_iconst (v := (-1 : Int32)) X dX11_line_29 (by decide) ?_
        cases hF
        exact z_iret X hA hQ hr rfl dX11_line_30 (Nat.le_refl _) (Nat.le_refl _)
      · have hF := hF.2 c24
        refine z_iload_n X dX11_line_13 rfl 2 rfl ?_
        refine z_aload_n X dX11_line_14 rfl 0 rfl ?_
        refine z_get (v := .ref (a_t 2)) X k_X11_line_26 0 rfl rfl dX11_line_15 ?_
        refine z_get (v := .ref (a_t_state 3)) X k_X11_line_280 2 rfl rfl dX11_line_18 ?_
        refine z_iload_n X dX11_line_21 rfl 1 rfl ?_
        obtain ⟨g1, hF⟩ := gi_e hF
        have hF := if_e hF
        refine z_bk X 3 rfl g1 dX11_line_22 (fun c0c23 => ?_) (fun c0c23 c1c23 => ?_) (fun c0c23 c1c23 c2c23 => ?_)
        · have hF := hF.1 c0c23
          refine z_get (v := .int (o_t_state_b0 3 0)) X k_X11_line_291 4 rfl rfl dX11_line_23 ?_
          have hF := if_e hF
          refine z_icmp_lt (tgt := 31) X dX11_line_26 (by decide) (fun c8 => ?_) (fun c8 => ?_)
          · have hF := hF.1 c8
            refine z_iload_n X dX11_line_31 rfl 3 rfl ?_
            have hF := if_e hF
            by_cases c3 : v3 = (0 : Int32)
            · have hF := hF.1 c3
              refine z_tableIn (tgt := 60) X dX11_line_32 (by rw [c3]; decide) (by rw [c3]; decide) (by rw [c3]; rfl) (by decide) ?_
              refine z_aload_n X dX11_line_60 rfl 0 rfl ?_
              refine z_get (v := .ref (a_t 2)) X k_X11_line_26 0 rfl rfl dX11_line_61 ?_
              refine z_get (v := .ref (a_t_state 3)) X k_X11_line_280 2 rfl rfl dX11_line_64 ?_
              refine z_iload_n X dX11_line_67 rfl 1 rfl ?_
              refine z_bk0 X 3 rfl (by first | assumption | omega) dX11_line_68 ?_
              refine z_get (v := .ref (a_t_state_b0 7)) X k_X11_line_309 4 rfl rfl dX11_line_69 ?_
              refine z_iload_n X dX11_line_72 rfl 2 rfl ?_
              obtain ⟨g2, hF⟩ := gi_e hF
              refine z_iald X 5 rfl g2 dX11_line_73 ?_
              cases hF
              exact z_iret X hA hQ hr rfl dX11_line_74 (Nat.le_refl _) (Nat.le_refl _)
            have hF := hF.2 c3
            have tc3 : Int32.toInt v3 ≠ 0 := ne_t c3
            have hF := if_e hF
            by_cases c5 : v3 = (1 : Int32)
            · have hF := hF.1 c5
              refine z_tableIn (tgt := 75) X dX11_line_32 (by rw [c5]; decide) (by rw [c5]; decide) (by rw [c5]; rfl) (by decide) ?_
              refine z_aload_n X dX11_line_75 rfl 0 rfl ?_
              refine z_get (v := .ref (a_t 2)) X k_X11_line_26 0 rfl rfl dX11_line_76 ?_
              refine z_get (v := .ref (a_t_state 3)) X k_X11_line_280 2 rfl rfl dX11_line_79 ?_
              refine z_iload_n X dX11_line_82 rfl 1 rfl ?_
              refine z_bk0 X 3 rfl (by first | assumption | omega) dX11_line_83 ?_
              refine z_get (v := .ref (a_t_state_b0 8)) X k_X11_line_312 4 rfl rfl dX11_line_84 ?_
              refine z_iload_n X dX11_line_87 rfl 2 rfl ?_
              obtain ⟨g4, hF⟩ := gi_e hF
              refine z_iald X 6 rfl g4 dX11_line_88 ?_
              cases hF
              exact z_iret X hA hQ hr rfl dX11_line_89 (Nat.le_refl _) (Nat.le_refl _)
            have hF := hF.2 c5
            have tc5 : Int32.toInt v3 ≠ 1 := ne_t c5
            have hF := if_e hF
            by_cases c7 : v3 = (2 : Int32)
            · have hF := hF.1 c7
              refine z_tableIn (tgt := 90) X dX11_line_32 (by rw [c7]; decide) (by rw [c7]; decide) (by rw [c7]; rfl) (by decide) ?_
              refine z_aload_n X dX11_line_90 rfl 0 rfl ?_
              refine z_get (v := .ref (a_t 2)) X k_X11_line_26 0 rfl rfl dX11_line_91 ?_
              refine z_get (v := .ref (a_t_state 3)) X k_X11_line_280 2 rfl rfl dX11_line_94 ?_
              refine z_iload_n X dX11_line_97 rfl 1 rfl ?_
              refine z_bk0 X 3 rfl (by first | assumption | omega) dX11_line_98 ?_
              refine z_get (v := .ref (a_t_state_b0 9)) X k_X11_line_315 4 rfl rfl dX11_line_99 ?_
              refine z_iload_n X dX11_line_102 rfl 2 rfl ?_
              obtain ⟨g6, hF⟩ := gi_e hF
              refine z_iald X 7 rfl g6 dX11_line_103 ?_
              cases hF
              exact z_iret X hA hQ hr rfl dX11_line_104 (Nat.le_refl _) (Nat.le_refl _)
            have hF := hF.2 c7
            have tc7 : Int32.toInt v3 ≠ 2 := ne_t c7
            refine z_tableOut (tgt := 105) X dX11_line_32 (by omega) (by decide) ?_
            refine z_iconst (v := (-1 : Int32)) X dX11_line_105 (by decide) ?_
            cases hF
            exact z_iret X hA hQ hr rfl dX11_line_106 (Nat.le_refl _) (Nat.le_refl _)
          · have hF := hF.2 c8
            refine z_iconst (v := (-1 : Int32)) X dX11_line_29 (by decide) ?_
            cases hF
            exact z_iret X hA hQ hr rfl dX11_line_30 (Nat.le_refl _) (Nat.le_refl _)
        · have hF := (if_e (hF.2 c0c23)).1 c1c23
          refine z_get (v := .int (o_t_state_b1 3 0)) X k_X11_line_291 8 rfl rfl dX11_line_23 ?_
          have hF := if_e hF
          refine z_icmp_lt (tgt := 31) X dX11_line_26 (by decide) (fun c15 => ?_) (fun c15 => ?_)
          · have hF := hF.1 c15
            refine z_iload_n X dX11_line_31 rfl 3 rfl ?_
            have hF := if_e hF
            by_cases c10 : v3 = (0 : Int32)
            · have hF := hF.1 c10
              refine z_tableIn (tgt := 60) X dX11_line_32 (by rw [c10]; decide) (by rw [c10]; decide) (by rw [c10]; rfl) (by decide) ?_
              refine z_aload_n X dX11_line_60 rfl 0 rfl ?_
              refine z_get (v := .ref (a_t 2)) X k_X11_line_26 0 rfl rfl dX11_line_61 ?_
              refine z_get (v := .ref (a_t_state 3)) X k_X11_line_280 2 rfl rfl dX11_line_64 ?_
              refine z_iload_n X dX11_line_67 rfl 1 rfl ?_
              refine z_bk1 X 3 rfl (by first | assumption | omega) dX11_line_68 ?_
              refine z_get (v := .ref (a_t_state_b1 7)) X k_X11_line_309 8 rfl rfl dX11_line_69 ?_
              refine z_iload_n X dX11_line_72 rfl 2 rfl ?_
              obtain ⟨g9, hF⟩ := gi_e hF
              refine z_iald X 9 rfl g9 dX11_line_73 ?_
              cases hF
              exact z_iret X hA hQ hr rfl dX11_line_74 (Nat.le_refl _) (Nat.le_refl _)
            have hF := hF.2 c10
            have tc10 : Int32.toInt v3 ≠ 0 := ne_t c10
            have hF := if_e hF
            by_cases c12 : v3 = (1 : Int32)
            · have hF := hF.1 c12
              refine z_tableIn (tgt := 75) X dX11_line_32 (by rw [c12]; decide) (by rw [c12]; decide) (by rw [c12]; rfl) (by decide) ?_
              refine z_aload_n X dX11_line_75 rfl 0 rfl ?_
              refine z_get (v := .ref (a_t 2)) X k_X11_line_26 0 rfl rfl dX11_line_76 ?_
              refine z_get (v := .ref (a_t_state 3)) X k_X11_line_280 2 rfl rfl dX11_line_79 ?_
              refine z_iload_n X dX11_line_82 rfl 1 rfl ?_
              refine z_bk1 X 3 rfl (by first | assumption | omega) dX11_line_83 ?_
              refine z_get (v := .ref (a_t_state_b1 8)) X k_X11_line_312 8 rfl rfl dX11_line_84 ?_
              refine z_iload_n X dX11_line_87 rfl 2 rfl ?_
              obtain ⟨g11, hF⟩ := gi_e hF
              refine z_iald X 10 rfl g11 dX11_line_88 ?_
              cases hF
              exact z_iret X hA hQ hr rfl dX11_line_89 (Nat.le_refl _) (Nat.le_refl _)
            have hF := hF.2 c12
            have tc12 : Int32.toInt v3 ≠ 1 := ne_t c12
            have hF := if_e hF
            by_cases c14 : v3 = (2 : Int32)
            · have hF := hF.1 c14
              refine z_tableIn (tgt := 90) X dX11_line_32 (by rw [c14]; decide) (by rw [c14]; decide) (by rw [c14]; rfl) (by decide) ?_
              refine z_aload_n X dX11_line_90 rfl 0 rfl ?_
              refine z_get (v := .ref (a_t 2)) X k_X11_line_26 0 rfl rfl dX11_line_91 ?_
              refine z_get (v := .ref (a_t_state 3)) X k_X11_line_280 2 rfl rfl dX11_line_94 ?_
              refine z_iload_n X dX11_line_97 rfl 1 rfl ?_
              refine z_bk1 X 3 rfl (by first | assumption | omega) dX11_line_98 ?_
              refine z_get (v := .ref (a_t_state_b1 9)) X k_X11_line_315 8 rfl rfl dX11_line_99 ?_
              refine z_iload_n X dX11_line_102 rfl 2 rfl ?_
              obtain ⟨g13, hF⟩ := gi_e hF
              refine z_iald X 11 rfl g13 dX11_line_103 ?_
              cases hF
              exact z_iret X hA hQ hr rfl dX11_line_104 (Nat.le_refl _) (Nat.le_refl _)
            have hF := hF.2 c14
            have tc14 : Int32.toInt v3 ≠ 2 := ne_t c14
            refine z_tableOut (tgt := 105) X dX11_line_32 (by omega) (by decide) ?_
            refine z_iconst (v := (-1 : Int32)) X dX11_line_105 (by decide) ?_
            cases hF
            exact z_iret X hA hQ hr rfl dX11_line_106 (Nat.le_refl _) (Nat.le_refl _)
          · have hF := hF.2 c15
            refine z_iconst (v := (-1 : Int32)) X dX11_line_29 (by decide) ?_
            cases hF
            exact z_iret X hA hQ hr rfl dX11_line_30 (Nat.le_refl _) (Nat.le_refl _)
        · have hF := (if_e (hF.2 c0c23)).2 c1c23
          refine z_get (v := .int (o_t_state_b2 3 0)) X k_X11_line_291 12 rfl rfl dX11_line_23 ?_
          have hF := if_e hF
          refine z_icmp_lt (tgt := 31) X dX11_line_26 (by decide) (fun c22 => ?_) (fun c22 => ?_)
          · have hF := hF.1 c22
            refine z_iload_n X dX11_line_31 rfl 3 rfl ?_
            have hF := if_e hF
            by_cases c17 : v3 = (0 : Int32)
            · have hF := hF.1 c17
              refine z_tableIn (tgt := 60) X dX11_line_32 (by rw [c17]; decide) (by rw [c17]; decide) (by rw [c17]; rfl) (by decide) ?_
              refine z_aload_n X dX11_line_60 rfl 0 rfl ?_
              refine z_get (v := .ref (a_t 2)) X k_X11_line_26 0 rfl rfl dX11_line_61 ?_
              refine z_get (v := .ref (a_t_state 3)) X k_X11_line_280 2 rfl rfl dX11_line_64 ?_
              refine z_iload_n X dX11_line_67 rfl 1 rfl ?_
              refine z_bk2 X 3 rfl (by first | assumption | omega) dX11_line_68 ?_
              refine z_get (v := .ref (a_t_state_b2 7)) X k_X11_line_309 12 rfl rfl dX11_line_69 ?_
              refine z_iload_n X dX11_line_72 rfl 2 rfl ?_
              obtain ⟨g16, hF⟩ := gi_e hF
              refine z_iald X 13 rfl g16 dX11_line_73 ?_
              cases hF
              exact z_iret X hA hQ hr rfl dX11_line_74 (Nat.le_refl _) (Nat.le_refl _)
            have hF := hF.2 c17
            have tc17 : Int32.toInt v3 ≠ 0 := ne_t c17
            have hF := if_e hF
            by_cases c19 : v3 = (1 : Int32)
            · have hF := hF.1 c19
              refine z_tableIn (tgt := 75) X dX11_line_32 (by rw [c19]; decide) (by rw [c19]; decide) (by rw [c19]; rfl) (by decide) ?_
              refine z_aload_n X dX11_line_75 rfl 0 rfl ?_
              refine z_get (v := .ref (a_t 2)) X k_X11_line_26 0 rfl rfl dX11_line_76 ?_
              refine z_get (v := .ref (a_t_state 3)) X k_X11_line_280 2 rfl rfl dX11_line_79 ?_
              refine z_iload_n X dX11_line_82 rfl 1 rfl ?_
              refine z_bk2 X 3 rfl (by first | assumption | omega) dX11_line_83 ?_
              refine z_get (v := .ref (a_t_state_b2 8)) X k_X11_line_312 12 rfl rfl dX11_line_84 ?_
              refine z_iload_n X dX11_line_87 rfl 2 rfl ?_
              obtain ⟨g18, hF⟩ := gi_e hF
              refine z_iald X 14 rfl g18 dX11_line_88 ?_
              cases hF
              exact z_iret X hA hQ hr rfl dX11_line_89 (Nat.le_refl _) (Nat.le_refl _)
            have hF := hF.2 c19
            have tc19 : Int32.toInt v3 ≠ 1 := ne_t c19
            have hF := if_e hF
            by_cases c21 : v3 = (2 : Int32)
            · have hF := hF.1 c21
              refine z_tableIn (tgt := 90) X dX11_line_32 (by rw [c21]; decide) (by rw [c21]; decide) (by rw [c21]; rfl) (by decide) ?_
              refine z_aload_n X dX11_line_90 rfl 0 rfl ?_
              refine z_get (v := .ref (a_t 2)) X k_X11_line_26 0 rfl rfl dX11_line_91 ?_
              refine z_get (v := .ref (a_t_state 3)) X k_X11_line_280 2 rfl rfl dX11_line_94 ?_
              refine z_iload_n X dX11_line_97 rfl 1 rfl ?_
              refine z_bk2 X 3 rfl (by first | assumption | omega) dX11_line_98 ?_
              refine z_get (v := .ref (a_t_state_b2 9)) X k_X11_line_315 12 rfl rfl dX11_line_99 ?_
              refine z_iload_n X dX11_line_102 rfl 2 rfl ?_
              obtain ⟨g20, hF⟩ := gi_e hF
              refine z_iald X 15 rfl g20 dX11_line_103 ?_
              cases hF
              exact z_iret X hA hQ hr rfl dX11_line_104 (Nat.le_refl _) (Nat.le_refl _)
            have hF := hF.2 c21
            have tc21 : Int32.toInt v3 ≠ 2 := ne_t c21
            refine z_tableOut (tgt := 105) X dX11_line_32 (by omega) (by decide) ?_
            refine z_iconst (v := (-1 : Int32)) X dX11_line_105 (by decide) ?_
            cases hF
            exact z_iret X hA hQ hr rfl dX11_line_106 (Nat.le_refl _) (Nat.le_refl _)
          · have hF := hF.2 c22
            refine z_iconst (v := (-1 : Int32)) X dX11_line_29 (by decide) ?_
            cases hF
            exact z_iret X hA hQ hr rfl dX11_line_30 (Nat.le_refl _) (Nat.le_refl _)
abbrev w_X11_leastPaid (cA : Nat → ClassId) (h_t : Nat) (a_t : Nat → Nat) (o_t : Ob) (a_t_state : Nat → Nat) (o_t_state : Ob) (a_t_state_wares : Nat → Nat) (o_t_state_wares : Ob) (a_t_state_shelf : Nat → Nat) (o_t_state_shelf : Ob) (a_t_state_log : Nat → Nat) (o_t_state_log : Ob) (a_t_planner : Nat → Nat) (o_t_planner : Ob) : va_W := [(h_t, .inr (11, [.ref (a_t 0), .ref (a_t 1), .ref (a_t 2), .ref (a_t 3), .ref (a_t 4), .ref (a_t 5), .ref (a_t 6), .ref (a_t 7), .ref (a_t 8), .ref (a_t 9), .ref (a_t 10), .ref (a_t 11), .ref (a_t 12), .int (o_t 13 0), .int (o_t 14 0)])), (a_t 12, .inl (cA 0, 20, .inl (o_t 12))), ((a_t 2), .inr (9, [.ref (a_t_state 0), .ref (a_t_state 1), .ref (a_t_state 2), .ref (a_t_state 3), .int (o_t_state 4 0), .int (o_t_state 5 0), .int (o_t_state 6 0)])), (a_t_state 3, .inl (cA 4, 3, .inr (.inr (.inr (.inr (bk (a_t_state 20) (a_t_state 21) (a_t_state 22))))))), ((a_t_state 0), .inr (10, [.int (o_t_state_wares 0 0), .ref (a_t_state_wares 1), .ref (a_t_state_wares 2), .ref (a_t_state_wares 3), .ref (a_t_state_wares 4)])), (a_t_state_wares 1, .inl (cA 0, 8, .inl (o_t_state_wares 1))), (a_t_state_wares 2, .inl (cA 0, 8, .inl (o_t_state_wares 2))), (a_t_state_wares 3, .inl (cA 0, 8, .inl (o_t_state_wares 3))), (a_t_state_wares 4, .inl (cA 0, 8, .inl (o_t_state_wares 4))), ((a_t_state 1), .inr (8, [.int (o_t_state_shelf 0 0), .int (o_t_state_shelf 1 0), .int (o_t_state_shelf 2 0), .int (o_t_state_shelf 3 0), .ref (a_t_state_shelf 4), .ref (a_t_state_shelf 5), .ref (a_t_state_shelf 6)])), (a_t_state_shelf 4, .inl (cA 0, 8, .inl (o_t_state_shelf 4))), (a_t_state_shelf 5, .inl (cA 0, 8, .inl (o_t_state_shelf 5))), (a_t_state_shelf 6, .inl (cA 1, 8, .inr (.inr (.inl (fun j => (o_t_state_shelf 6 j).toUInt32))))), ((a_t_state 2), .inr (4, [.int (o_t_state_log 0 0), .ref (a_t_state_log 1), .ref (a_t_state_log 2), .ref (a_t_state_log 3), .ref (a_t_state_log 4)])), (a_t_state_log 1, .inl (cA 0, 40, .inl (o_t_state_log 1))), (a_t_state_log 2, .inl (cA 0, 40, .inl (o_t_state_log 2))), (a_t_state_log 3, .inl (cA 0, 40, .inl (o_t_state_log 3))), (a_t_state_log 4, .inl (cA 0, 320, .inl (o_t_state_log 4))), ((a_t 8), .inr (5, [.int (o_t_planner 0 0), .ref (a_t_planner 1), .ref (a_t_planner 2), .ref (a_t_planner 3), .ref (a_t_planner 4), .int (o_t_planner 5 0), .int (o_t_planner 6 0), .int (o_t_planner 7 0), .int (o_t_planner 8 0), .ref (a_t_planner 9)])), (a_t_planner 1, .inl (cA 0, 10496, .inl (o_t_planner 1))), (a_t_planner 2, .inl (cA 0, 256, .inl (o_t_planner 2))), (a_t_planner 3, .inl (cA 0, 256, .inl (o_t_planner 3))), (a_t_planner 4, .inl (cA 0, 256, .inl (o_t_planner 4))), (a_t_planner 9, .inl (cA 0, 40, .inl (o_t_planner 9)))]
set_option maxRecDepth 20000 in
theorem h_X11_leastPaid_X11 : ∀ w ∈ wsX110, w ∈ wsX11_leastPaid := by decide +kernel
set_option maxRecDepth 20000 in
theorem k_X11_leastPaid_26 : ZF wsX11_leastPaid RX11 26 11 2 RX11 TX11 15 := ⟨rfl, by decide, h_X11_leastPaid_X11, by decide +kernel⟩
set_option maxRecDepth 20000 in
theorem k_X11_leastPaid_67 : ZF wsX11_leastPaid RX11 67 11 8 RX11 TX11 15 := ⟨rfl, by decide, h_X11_leastPaid_X11, by decide +kernel⟩
set_option maxRecDepth 20000 in
theorem h_X11_leastPaid_X9 : ∀ w ∈ wsX90, w ∈ wsX11_leastPaid := by decide +kernel
set_option maxRecDepth 20000 in
theorem k_X11_leastPaid_160 : ZF wsX11_leastPaid RX11 160 9 1 RX9 TX9 7 := ⟨rfl, by decide, h_X11_leastPaid_X9, by decide +kernel⟩
set_option maxRecDepth 20000 in
theorem h_X11_leastPaid_X8 : ∀ w ∈ wsX80, w ∈ wsX11_leastPaid := by decide +kernel
set_option maxRecDepth 20000 in
theorem k_X11_leastPaid_163 : ZF wsX11_leastPaid RX11 163 8 0 RX8 TX8 7 := ⟨rfl, by decide, h_X11_leastPaid_X8, by decide +kernel⟩
set_option maxHeartbeats 8000000 in
set_option maxRecDepth 100000 in
theorem c_X11_leastPaid (l : Launch) (D : va_G) (cA : Nat → ClassId) (g : Nat → Nat) (sz : Nat) (h_t : Nat) (a_t : Nat → Nat) (o_t : Ob) (a_t_state : Nat → Nat) (o_t_state : Ob) (a_t_state_wares : Nat → Nat) (o_t_state_wares : Ob) (a_t_state_shelf : Nat → Nat) (o_t_state_shelf : Ob) (a_t_state_log : Nat → Nat) (o_t_state_log : Ob) (a_t_planner : Nat → Nat) (o_t_planner : Ob) (v1 : Int32) (o_t_planner' : Ob) (rv : Int32) (hF : f_X11_leastPaid o_t_state_wares o_t_state_shelf o_t_state_log o_t_planner v1 = some (o_t_planner', rv)) : Met l yX11_leastPaid wsX11_leastPaid ({ frames := 3, cells := 0, slots := 0, locals := 75 }) (va_Pc [.ref h_t, .int v1] (PreW D cA g sz (w_X11_leastPaid cA h_t a_t o_t a_t_state o_t_state a_t_state_wares o_t_state_wares a_t_state_shelf o_t_state_shelf a_t_state_log o_t_state_log a_t_planner o_t_planner))) (va_Qi (fun (r : Int32) (_ : Unit) => r = rv) (PostW D cA sz (w_X11_leastPaid cA h_t a_t o_t a_t_state o_t_state a_t_state_wares o_t_state_wares a_t_state_shelf o_t_state_shelf a_t_state_log o_t_state_log a_t_planner o_t_planner) (w_X11_leastPaid cA h_t a_t o_t a_t_state o_t_state a_t_state_wares o_t_state_wares a_t_state_shelf o_t_state_shelf a_t_state_log o_t_state_log a_t_planner o_t_planner')) (va_A (w_X11_leastPaid cA h_t a_t o_t a_t_state o_t_state a_t_state_wares o_t_state_wares a_t_state_shelf o_t_state_shelf a_t_state_log o_t_state_log a_t_planner o_t_planner) sz)) 0 0 (va_A (w_X11_leastPaid cA h_t a_t o_t a_t_state o_t_state a_t_state_wares o_t_state_wares a_t_state_shelf o_t_state_shelf a_t_state_log o_t_state_log a_t_planner o_t_planner) sz) := by
  refine z_start (cc := cX11_leastPaid) (maxL := 2) (ret := (some .int)) (lv0 := [(0, .ref h_t), (1, .int v1)]) (Qc := fun sz => va_Qi (fun (r : Int32) (_ : Unit) => r = rv) (PostW D cA sz (w_X11_leastPaid cA h_t a_t o_t a_t_state o_t_state a_t_state_wares o_t_state_wares a_t_state_shelf o_t_state_shelf a_t_state_log o_t_state_log a_t_planner o_t_planner) (w_X11_leastPaid cA h_t a_t o_t a_t_state o_t_state a_t_state_wares o_t_state_wares a_t_state_shelf o_t_state_shelf a_t_state_log o_t_state_log a_t_planner o_t_planner')) (va_A (w_X11_leastPaid cA h_t a_t o_t a_t_state o_t_state a_t_state_wares o_t_state_wares a_t_state_shelf o_t_state_shelf a_t_state_log o_t_state_log a_t_planner o_t_planner) sz)) (free := fun sz => va_A (w_X11_leastPaid cA h_t a_t o_t a_t_state o_t_state a_t_state_wares o_t_state_wares a_t_state_shelf o_t_state_shelf a_t_state_log o_t_state_log a_t_planner o_t_planner) sz) (by decide +kernel) rfl rfl (Nat.le_of_ble_eq_true rfl) ?_
  intro p e R s m args below meth c A Q hR hA hQ X hr hin
  unfold f_X11_leastPaid at hF
  refine z_aload_n X dX11_leastPaid_0 rfl 0 rfl ?_
  refine z_get (v := .ref (a_t 8)) X k_X11_leastPaid_67 0 rfl rfl dX11_leastPaid_1 ?_
  refine z_aload_n X dX11_leastPaid_4 rfl 0 rfl ?_
  refine z_get (v := .ref (a_t 2)) X k_X11_leastPaid_26 0 rfl rfl dX11_leastPaid_5 ?_
  refine z_aload_n X dX11_leastPaid_8 rfl 0 rfl ?_
  refine z_get (v := .ref (a_t 2)) X k_X11_leastPaid_26 0 rfl rfl dX11_leastPaid_9 ?_
  refine z_get (v := .ref (a_t_state 1)) X k_X11_leastPaid_160 2 rfl rfl dX11_leastPaid_12 ?_
  refine z_get (v := .int (o_t_state_shelf 0 0)) X k_X11_leastPaid_163 9 rfl rfl dX11_leastPaid_15 ?_
  refine z_iconst (v := (-1 : Int32)) X dX11_leastPaid_18 (by decide) ?_
  obtain ⟨o1, hc2, hF⟩ := zb1_e hF
  refine z_Vv (As := [.ref (a_t 2), .int (o_t_state_shelf 0 0), .int (-1 : Int32)]) (rest := []) (wc := (w_X5_follow cA (a_t 8) a_t_planner 10496 o_t_planner (a_t 2) a_t_state o_t_state a_t_state_wares o_t_state_wares a_t_state_shelf o_t_state_shelf a_t_state_log o_t_state_log)) (wc' := (w_X5_follow cA (a_t 8) a_t_planner 10496 o1 (a_t 2) a_t_state o_t_state a_t_state_wares o_t_state_wares a_t_state_shelf o_t_state_shelf a_t_state_log o_t_state_log)) (ws' := (w_X11_leastPaid cA h_t a_t o_t a_t_state o_t_state a_t_state_wares o_t_state_wares a_t_state_shelf o_t_state_shelf a_t_state_log o_t_state_log a_t_planner o1)) X (cwV 3 X.2.2.2.2.1 gX11_leastPaid_X5_follow rfl rfl rfl (by decide +kernel) (by rw [hR]; exact ⟨Nat.le_of_ble_eq_true rfl, Nat.le_of_ble_eq_true rfl⟩)) (fun sz => c_X5_follow l D cA g sz (a_t 8) a_t_planner 10496 o_t_planner (a_t 2) a_t_state o_t_state a_t_state_wares o_t_state_wares a_t_state_shelf o_t_state_shelf a_t_state_log o_t_state_log (o_t_state_shelf 0 0) (-1 : Int32) o1 hc2) [18, 19, 20, 21, 22, 23, 2, 3, 4, 5, 6, 7, 8, 9, 10, 11, 12, 13, 14, 15, 16, 17] [0, 1, 1006, 1007, 1008, 1009, 1010, 1011, 1012, 1013, 1014, 1015, 1016, 1017, 1018, 1019, 1020, 1021, 1000, 1001, 1002, 1003, 1004, 1005] rfl (by decide) rfl (by decide) rfl rfl rfl rfl rfl rfl (Nat.le_of_ble_eq_true rfl) dX11_leastPaid_19 ⟨Nat.zero_le _, Nat.zero_le _⟩ ?_
  refine z_aload_n X dX11_leastPaid_22 rfl 0 rfl ?_
  refine z_get (v := .ref (a_t 8)) X k_X11_leastPaid_67 0 rfl rfl dX11_leastPaid_23 ?_
  refine z_iload_n X dX11_leastPaid_26 rfl 1 rfl ?_
  obtain ⟨r3, hc4, hF⟩ := zb1_e hF
  refine z_Vi (As := [.int v1]) (rest := []) (wc := (w_X5_forget cA (a_t 8) a_t_planner 10496 o1)) (wc' := (w_X5_forget cA (a_t 8) a_t_planner 10496 o1)) (ws' := (w_X11_leastPaid cA h_t a_t o_t a_t_state o_t_state a_t_state_wares o_t_state_wares a_t_state_shelf o_t_state_shelf a_t_state_log o_t_state_log a_t_planner o1)) (rv := r3) X (cwV 1 X.2.2.2.2.1 gX11_leastPaid_X5_least rfl rfl rfl (by decide +kernel) (by rw [hR]; exact ⟨Nat.le_of_ble_eq_true rfl, Nat.le_of_ble_eq_true rfl⟩)) (fun sz => c_X5_least l D cA g sz (a_t 8) a_t_planner 10496 o1 v1 r3 hc4) [18, 19, 20, 21, 22, 23] [0, 1, 2, 3, 4, 5, 6, 7, 8, 9, 10, 11, 12, 13, 14, 15, 16, 17, 1000, 1001, 1002, 1003, 1004, 1005] rfl (by decide) rfl (by decide) rfl rfl rfl rfl rfl rfl (Nat.le_of_ble_eq_true rfl) dX11_leastPaid_27 ⟨Nat.zero_le _, Nat.zero_le _⟩ ?_
  cases hF
  exact z_iret X hA hQ hr rfl dX11_leastPaid_30 (Nat.le_refl _) (Nat.le_refl _)
set_option maxRecDepth 20000 in
theorem h_X11_best_X11 : ∀ w ∈ wsX110, w ∈ wsX11_best := by decide +kernel
set_option maxRecDepth 20000 in
theorem k_X11_best_26 : ZF wsX11_best RX11 26 11 2 RX11 TX11 15 := ⟨rfl, by decide, h_X11_best_X11, by decide +kernel⟩
set_option maxRecDepth 20000 in
theorem h_X11_best_X9 : ∀ w ∈ wsX90, w ∈ wsX11_best := by decide +kernel
set_option maxRecDepth 20000 in
theorem k_X11_best_143 : ZF wsX11_best RX11 143 9 2 RX9 TX9 7 := ⟨rfl, by decide, h_X11_best_X9, by decide +kernel⟩
set_option maxRecDepth 20000 in
theorem h_X11_best_X4 : ∀ w ∈ wsX40, w ∈ wsX11_best := by decide +kernel
set_option maxRecDepth 20000 in
theorem k_X11_best_175 : ZF wsX11_best RX11 175 4 0 RX4 TX4 5 := ⟨rfl, by decide, h_X11_best_X4, by decide +kernel⟩
set_option maxHeartbeats 8000000 in
set_option maxRecDepth 100000 in
theorem c_X11_best (l : Launch) (D : va_G) (cA : Nat → ClassId) (g : Nat → Nat) (sz : Nat) (h_t : Nat) (a_t : Nat → Nat) (o_t : Ob) (a_t_state : Nat → Nat) (o_t_state : Ob) (a_t_state_wares : Nat → Nat) (o_t_state_wares : Ob) (a_t_state_shelf : Nat → Nat) (o_t_state_shelf : Ob) (a_t_state_log : Nat → Nat) (o_t_state_log : Ob) (a_t_planner : Nat → Nat) (o_t_planner : Ob)  (o_t_planner' : Ob) (rv : Int32) (hF : f_X11_best o_t_state_wares o_t_state_shelf o_t_state_log o_t_planner = some (o_t_planner', rv)) : Met l yX11_best wsX11_best ({ frames := 4, cells := 0, slots := 0, locals := 96 }) (va_Pc [.ref h_t] (PreW D cA g sz (w_X11_leastPaid cA h_t a_t o_t a_t_state o_t_state a_t_state_wares o_t_state_wares a_t_state_shelf o_t_state_shelf a_t_state_log o_t_state_log a_t_planner o_t_planner))) (va_Qi (fun (r : Int32) (_ : Unit) => r = rv) (PostW D cA sz (w_X11_leastPaid cA h_t a_t o_t a_t_state o_t_state a_t_state_wares o_t_state_wares a_t_state_shelf o_t_state_shelf a_t_state_log o_t_state_log a_t_planner o_t_planner) (w_X11_leastPaid cA h_t a_t o_t a_t_state o_t_state a_t_state_wares o_t_state_wares a_t_state_shelf o_t_state_shelf a_t_state_log o_t_state_log a_t_planner o_t_planner')) (va_A (w_X11_leastPaid cA h_t a_t o_t a_t_state o_t_state a_t_state_wares o_t_state_wares a_t_state_shelf o_t_state_shelf a_t_state_log o_t_state_log a_t_planner o_t_planner) sz)) 0 0 (va_A (w_X11_leastPaid cA h_t a_t o_t a_t_state o_t_state a_t_state_wares o_t_state_wares a_t_state_shelf o_t_state_shelf a_t_state_log o_t_state_log a_t_planner o_t_planner) sz) := by
  refine z_start (cc := cX11_best) (maxL := 1) (ret := (some .int)) (lv0 := [(0, .ref h_t)]) (Qc := fun sz => va_Qi (fun (r : Int32) (_ : Unit) => r = rv) (PostW D cA sz (w_X11_leastPaid cA h_t a_t o_t a_t_state o_t_state a_t_state_wares o_t_state_wares a_t_state_shelf o_t_state_shelf a_t_state_log o_t_state_log a_t_planner o_t_planner) (w_X11_leastPaid cA h_t a_t o_t a_t_state o_t_state a_t_state_wares o_t_state_wares a_t_state_shelf o_t_state_shelf a_t_state_log o_t_state_log a_t_planner o_t_planner')) (va_A (w_X11_leastPaid cA h_t a_t o_t a_t_state o_t_state a_t_state_wares o_t_state_wares a_t_state_shelf o_t_state_shelf a_t_state_log o_t_state_log a_t_planner o_t_planner) sz)) (free := fun sz => va_A (w_X11_leastPaid cA h_t a_t o_t a_t_state o_t_state a_t_state_wares o_t_state_wares a_t_state_shelf o_t_state_shelf a_t_state_log o_t_state_log a_t_planner o_t_planner) sz) (by decide +kernel) rfl rfl (Nat.le_of_ble_eq_true rfl) ?_
  intro p e R s m args below meth c A Q hR hA hQ X hr hin
  unfold f_X11_best at hF
  refine z_aload_n X dX11_best_0 rfl 0 rfl ?_
  refine z_get (v := .ref (a_t 2)) X k_X11_best_26 0 rfl rfl dX11_best_1 ?_
  refine z_get (v := .ref (a_t_state 2)) X k_X11_best_143 2 rfl rfl dX11_best_4 ?_
  refine z_get (v := .int (o_t_state_log 0 0)) X k_X11_best_175 13 rfl rfl dX11_best_7 ?_
  have hF := if_e hF
  refine z_if_ne (tgt := 17) X dX11_best_10 (by decide) (fun c4 => ?_) (fun c4 => ?_)
  · have hF := hF.2 c4
    refine z_aload_n X dX11_best_17 rfl 0 rfl ?_
    refine z_aload_n X dX11_best_18 rfl 0 rfl ?_
    refine z_get (v := .ref (a_t 2)) X k_X11_best_26 0 rfl rfl dX11_best_19 ?_
    refine z_get (v := .ref (a_t_state 2)) X k_X11_best_143 2 rfl rfl dX11_best_22 ?_
    refine z_get (v := .int (o_t_state_log 0 0)) X k_X11_best_175 13 rfl rfl dX11_best_25 ?_
    obtain ⟨o1, r2, hc3, hF⟩ := zb2_e hF
    refine z_Vi (As := [.int (o_t_state_log 0 0)]) (rest := []) (wc := (w_X11_leastPaid cA h_t a_t o_t a_t_state o_t_state a_t_state_wares o_t_state_wares a_t_state_shelf o_t_state_shelf a_t_state_log o_t_state_log a_t_planner o_t_planner)) (wc' := (w_X11_leastPaid cA h_t a_t o_t a_t_state o_t_state a_t_state_wares o_t_state_wares a_t_state_shelf o_t_state_shelf a_t_state_log o_t_state_log a_t_planner o1)) (ws' := (w_X11_leastPaid cA h_t a_t o_t a_t_state o_t_state a_t_state_wares o_t_state_wares a_t_state_shelf o_t_state_shelf a_t_state_log o_t_state_log a_t_planner o1)) (rv := r2) X (cwV 1 X.2.2.2.2.1 gX11_best_X11_leastPaid rfl rfl rfl (by decide +kernel) (by rw [hR]; exact ⟨Nat.le_of_ble_eq_true rfl, Nat.le_of_ble_eq_true rfl⟩)) (fun sz => c_X11_leastPaid l D cA g sz h_t a_t o_t a_t_state o_t_state a_t_state_wares o_t_state_wares a_t_state_shelf o_t_state_shelf a_t_state_log o_t_state_log a_t_planner o_t_planner (o_t_state_log 0 0) o1 r2 hc3) [0, 1, 2, 3, 4, 5, 6, 7, 8, 9, 10, 11, 12, 13, 14, 15, 16, 17, 18, 19, 20, 21, 22, 23] [1000, 1001, 1002, 1003, 1004, 1005, 1006, 1007, 1008, 1009, 1010, 1011, 1012, 1013, 1014, 1015, 1016, 1017, 1018, 1019, 1020, 1021, 1022, 1023] rfl (by decide) rfl (by decide) rfl rfl rfl rfl rfl rfl (Nat.le_of_ble_eq_true rfl) dX11_best_28 ⟨Nat.zero_le _, Nat.zero_le _⟩ ?_
    cases hF
    exact z_iret X hA hQ hr rfl dX11_best_31 (Nat.le_refl _) (Nat.le_refl _)
  · have hF := hF.1 c4
    refine z_iconst (v := (-1 : Int32)) X dX11_best_13 (by decide) ?_
    refine z_goto (tgt := 31) X dX11_best_14 (by decide) ?_
    cases hF
    exact z_iret X hA hQ hr rfl dX11_best_31 (Nat.le_refl _) (Nat.le_refl _)
set_option maxRecDepth 20000 in
theorem h_X11_upTo_X11 : ∀ w ∈ wsX110, w ∈ wsX11_upTo := by decide +kernel
set_option maxRecDepth 20000 in
theorem k_X11_upTo_26 : ZF wsX11_upTo RX11 26 11 2 RX11 TX11 15 := ⟨rfl, by decide, h_X11_upTo_X11, by decide +kernel⟩
set_option maxRecDepth 20000 in
theorem h_X11_upTo_X9 : ∀ w ∈ wsX90, w ∈ wsX11_upTo := by decide +kernel
set_option maxRecDepth 20000 in
theorem k_X11_upTo_143 : ZF wsX11_upTo RX11 143 9 2 RX9 TX9 7 := ⟨rfl, by decide, h_X11_upTo_X9, by decide +kernel⟩
set_option maxHeartbeats 8000000 in
set_option maxRecDepth 100000 in
theorem c_X11_upTo (l : Launch) (D : va_G) (cA : Nat → ClassId) (g : Nat → Nat) (sz : Nat) (h_t : Nat) (a_t : Nat → Nat) (o_t : Ob) (a_t_state : Nat → Nat) (o_t_state : Ob) (a_t_state_wares : Nat → Nat) (o_t_state_wares : Ob) (a_t_state_shelf : Nat → Nat) (o_t_state_shelf : Ob) (a_t_state_log : Nat → Nat) (o_t_state_log : Ob) (a_t_planner : Nat → Nat) (o_t_planner : Ob) (v1 : Int32) (o_t_planner' : Ob) (rv : Int32) (hF : f_X11_upTo o_t_state_wares o_t_state_shelf o_t_state_log o_t_planner v1 = some (o_t_planner', rv)) : Met l yX11_upTo wsX11_upTo ({ frames := 4, cells := 0, slots := 0, locals := 96 }) (va_Pc [.ref h_t, .int v1] (PreW D cA g sz (w_X11_leastPaid cA h_t a_t o_t a_t_state o_t_state a_t_state_wares o_t_state_wares a_t_state_shelf o_t_state_shelf a_t_state_log o_t_state_log a_t_planner o_t_planner))) (va_Qi (fun (r : Int32) (_ : Unit) => r = rv) (PostW D cA sz (w_X11_leastPaid cA h_t a_t o_t a_t_state o_t_state a_t_state_wares o_t_state_wares a_t_state_shelf o_t_state_shelf a_t_state_log o_t_state_log a_t_planner o_t_planner) (w_X11_leastPaid cA h_t a_t o_t a_t_state o_t_state a_t_state_wares o_t_state_wares a_t_state_shelf o_t_state_shelf a_t_state_log o_t_state_log a_t_planner o_t_planner')) (va_A (w_X11_leastPaid cA h_t a_t o_t a_t_state o_t_state a_t_state_wares o_t_state_wares a_t_state_shelf o_t_state_shelf a_t_state_log o_t_state_log a_t_planner o_t_planner) sz)) 0 0 (va_A (w_X11_leastPaid cA h_t a_t o_t a_t_state o_t_state a_t_state_wares o_t_state_wares a_t_state_shelf o_t_state_shelf a_t_state_log o_t_state_log a_t_planner o_t_planner) sz) := by
  refine z_start (cc := cX11_upTo) (maxL := 2) (ret := (some .int)) (lv0 := [(0, .ref h_t), (1, .int v1)]) (Qc := fun sz => va_Qi (fun (r : Int32) (_ : Unit) => r = rv) (PostW D cA sz (w_X11_leastPaid cA h_t a_t o_t a_t_state o_t_state a_t_state_wares o_t_state_wares a_t_state_shelf o_t_state_shelf a_t_state_log o_t_state_log a_t_planner o_t_planner) (w_X11_leastPaid cA h_t a_t o_t a_t_state o_t_state a_t_state_wares o_t_state_wares a_t_state_shelf o_t_state_shelf a_t_state_log o_t_state_log a_t_planner o_t_planner')) (va_A (w_X11_leastPaid cA h_t a_t o_t a_t_state o_t_state a_t_state_wares o_t_state_wares a_t_state_shelf o_t_state_shelf a_t_state_log o_t_state_log a_t_planner o_t_planner) sz)) (free := fun sz => va_A (w_X11_leastPaid cA h_t a_t o_t a_t_state o_t_state a_t_state_wares o_t_state_wares a_t_state_shelf o_t_state_shelf a_t_state_log o_t_state_log a_t_planner o_t_planner) sz) (by decide +kernel) rfl rfl (Nat.le_of_ble_eq_true rfl) ?_
  intro p e R s m args below meth c A Q hR hA hQ X hr hin
  unfold f_X11_upTo at hF
  refine z_aload_n X dX11_upTo_0 rfl 0 rfl ?_
  refine z_get (v := .ref (a_t 2)) X k_X11_upTo_26 0 rfl rfl dX11_upTo_1 ?_
  refine z_get (v := .ref (a_t_state 2)) X k_X11_upTo_143 2 rfl rfl dX11_upTo_4 ?_
  refine z_iload_n X dX11_upTo_7 rfl 1 rfl ?_
  obtain ⟨r1, hc2, hF⟩ := zb1_e hF
  refine z_Vi (As := [.int v1]) (rest := []) (wc := (w_X4_has cA (a_t_state 2) a_t_state_log o_t_state_log)) (wc' := (w_X4_has cA (a_t_state 2) a_t_state_log o_t_state_log)) (ws' := (w_X11_leastPaid cA h_t a_t o_t a_t_state o_t_state a_t_state_wares o_t_state_wares a_t_state_shelf o_t_state_shelf a_t_state_log o_t_state_log a_t_planner o_t_planner)) (rv := r1) X (cwV 1 X.2.2.2.2.1 gX11_upTo_X4_has rfl rfl rfl (by decide +kernel) (by rw [hR]; exact ⟨Nat.le_of_ble_eq_true rfl, Nat.le_of_ble_eq_true rfl⟩)) (fun sz => c_X4_has l D cA g sz (a_t_state 2) a_t_state_log o_t_state_log v1 r1 hc2) [13, 14, 15, 16, 17] [0, 1, 2, 3, 4, 5, 6, 7, 8, 9, 10, 11, 12, 1000, 1001, 1002, 1003, 1004, 18, 19, 20, 21, 22, 23] rfl (by decide) rfl (by decide) rfl rfl rfl rfl rfl rfl (Nat.le_of_ble_eq_true rfl) dX11_upTo_8 ⟨Nat.zero_le _, Nat.zero_le _⟩ ?_
  have hF := if_e hF
  refine z_if_eq (tgt := 24) X dX11_upTo_11 (by decide) (fun c6 => ?_) (fun c6 => ?_)
  · have hF := hF.1 c6
    refine z_iconst (v := (-1 : Int32)) X dX11_upTo_24 (by decide) ?_
    cases hF
    exact z_iret X hA hQ hr rfl dX11_upTo_25 (Nat.le_refl _) (Nat.le_refl _)
  · have hF := hF.2 c6
    refine z_aload_n X dX11_upTo_14 rfl 0 rfl ?_
    refine z_iload_n X dX11_upTo_15 rfl 1 rfl ?_
    refine z_iconst (v := (1 : Int32)) X dX11_upTo_16 (by decide) ?_
    refine z_iadd X dX11_upTo_17 ?_
    obtain ⟨o3, r4, hc5, hF⟩ := zb2_e hF
    refine z_Vi (As := [.int (v1 + (1 : Int32))]) (rest := []) (wc := (w_X11_leastPaid cA h_t a_t o_t a_t_state o_t_state a_t_state_wares o_t_state_wares a_t_state_shelf o_t_state_shelf a_t_state_log o_t_state_log a_t_planner o_t_planner)) (wc' := (w_X11_leastPaid cA h_t a_t o_t a_t_state o_t_state a_t_state_wares o_t_state_wares a_t_state_shelf o_t_state_shelf a_t_state_log o_t_state_log a_t_planner o3)) (ws' := (w_X11_leastPaid cA h_t a_t o_t a_t_state o_t_state a_t_state_wares o_t_state_wares a_t_state_shelf o_t_state_shelf a_t_state_log o_t_state_log a_t_planner o3)) (rv := r4) X (cwV 1 X.2.2.2.2.1 gX11_upTo_X11_leastPaid rfl rfl rfl (by decide +kernel) (by rw [hR]; exact ⟨Nat.le_of_ble_eq_true rfl, Nat.le_of_ble_eq_true rfl⟩)) (fun sz => c_X11_leastPaid l D cA g sz h_t a_t o_t a_t_state o_t_state a_t_state_wares o_t_state_wares a_t_state_shelf o_t_state_shelf a_t_state_log o_t_state_log a_t_planner o_t_planner (v1 + (1 : Int32)) o3 r4 hc5) [0, 1, 2, 3, 4, 5, 6, 7, 8, 9, 10, 11, 12, 13, 14, 15, 16, 17, 18, 19, 20, 21, 22, 23] [1000, 1001, 1002, 1003, 1004, 1005, 1006, 1007, 1008, 1009, 1010, 1011, 1012, 1013, 1014, 1015, 1016, 1017, 1018, 1019, 1020, 1021, 1022, 1023] rfl (by decide) rfl (by decide) rfl rfl rfl rfl rfl rfl (Nat.le_of_ble_eq_true rfl) dX11_upTo_18 ⟨Nat.zero_le _, Nat.zero_le _⟩ ?_
    refine z_goto (tgt := 25) X dX11_upTo_21 (by decide) ?_
    cases hF
    exact z_iret X hA hQ hr rfl dX11_upTo_25 (Nat.le_refl _) (Nat.le_refl _)
set_option maxRecDepth 20000 in
theorem h_X11_trace_X11 : ∀ w ∈ wsX110, w ∈ wsX11_trace := by decide +kernel
set_option maxRecDepth 20000 in
theorem k_X11_trace_26 : ZF wsX11_trace RX11 26 11 2 RX11 TX11 15 := ⟨rfl, by decide, h_X11_trace_X11, by decide +kernel⟩
set_option maxRecDepth 20000 in
theorem k_X11_trace_67 : ZF wsX11_trace RX11 67 11 8 RX11 TX11 15 := ⟨rfl, by decide, h_X11_trace_X11, by decide +kernel⟩
set_option maxRecDepth 20000 in
theorem h_X11_trace_X9 : ∀ w ∈ wsX90, w ∈ wsX11_trace := by decide +kernel
set_option maxRecDepth 20000 in
theorem k_X11_trace_160 : ZF wsX11_trace RX11 160 9 1 RX9 TX9 7 := ⟨rfl, by decide, h_X11_trace_X9, by decide +kernel⟩
set_option maxRecDepth 20000 in
theorem h_X11_trace_X8 : ∀ w ∈ wsX80, w ∈ wsX11_trace := by decide +kernel
set_option maxRecDepth 20000 in
theorem k_X11_trace_163 : ZF wsX11_trace RX11 163 8 0 RX8 TX8 7 := ⟨rfl, by decide, h_X11_trace_X8, by decide +kernel⟩
set_option maxHeartbeats 8000000 in
set_option maxRecDepth 100000 in
theorem c_X11_trace (l : Launch) (D : va_G) (cA : Nat → ClassId) (g : Nat → Nat) (sz : Nat) (h_t : Nat) (a_t : Nat → Nat) (o_t : Ob) (a_t_state : Nat → Nat) (o_t_state : Ob) (a_t_state_wares : Nat → Nat) (o_t_state_wares : Ob) (a_t_state_shelf : Nat → Nat) (o_t_state_shelf : Ob) (a_t_state_log : Nat → Nat) (o_t_state_log : Ob) (a_t_planner : Nat → Nat) (o_t_planner : Ob)  (o_t_planner' : Ob) (hF : f_X11_trace o_t_state_wares o_t_state_shelf o_t_state_log o_t_planner = some o_t_planner') : Met l yX11_trace wsX11_trace ({ frames := 3, cells := 0, slots := 0, locals := 75 }) (va_Pc [.ref h_t] (PreW D cA g sz (w_X11_leastPaid cA h_t a_t o_t a_t_state o_t_state a_t_state_wares o_t_state_wares a_t_state_shelf o_t_state_shelf a_t_state_log o_t_state_log a_t_planner o_t_planner))) (va_Qv (fun (_ : Unit) => True) (PostW D cA sz (w_X11_leastPaid cA h_t a_t o_t a_t_state o_t_state a_t_state_wares o_t_state_wares a_t_state_shelf o_t_state_shelf a_t_state_log o_t_state_log a_t_planner o_t_planner) (w_X11_leastPaid cA h_t a_t o_t a_t_state o_t_state a_t_state_wares o_t_state_wares a_t_state_shelf o_t_state_shelf a_t_state_log o_t_state_log a_t_planner o_t_planner')) (va_A (w_X11_leastPaid cA h_t a_t o_t a_t_state o_t_state a_t_state_wares o_t_state_wares a_t_state_shelf o_t_state_shelf a_t_state_log o_t_state_log a_t_planner o_t_planner) sz)) 0 0 (va_A (w_X11_leastPaid cA h_t a_t o_t a_t_state o_t_state a_t_state_wares o_t_state_wares a_t_state_shelf o_t_state_shelf a_t_state_log o_t_state_log a_t_planner o_t_planner) sz) := by
  refine z_start (cc := cX11_trace) (maxL := 1) (ret := none) (lv0 := [(0, .ref h_t)]) (Qc := fun sz => va_Qv (fun (_ : Unit) => True) (PostW D cA sz (w_X11_leastPaid cA h_t a_t o_t a_t_state o_t_state a_t_state_wares o_t_state_wares a_t_state_shelf o_t_state_shelf a_t_state_log o_t_state_log a_t_planner o_t_planner) (w_X11_leastPaid cA h_t a_t o_t a_t_state o_t_state a_t_state_wares o_t_state_wares a_t_state_shelf o_t_state_shelf a_t_state_log o_t_state_log a_t_planner o_t_planner')) (va_A (w_X11_leastPaid cA h_t a_t o_t a_t_state o_t_state a_t_state_wares o_t_state_wares a_t_state_shelf o_t_state_shelf a_t_state_log o_t_state_log a_t_planner o_t_planner) sz)) (free := fun sz => va_A (w_X11_leastPaid cA h_t a_t o_t a_t_state o_t_state a_t_state_wares o_t_state_wares a_t_state_shelf o_t_state_shelf a_t_state_log o_t_state_log a_t_planner o_t_planner) sz) (by decide +kernel) rfl rfl (Nat.le_of_ble_eq_true rfl) ?_
  intro p e R s m args below meth c A Q hR hA hQ X hr hin
  unfold f_X11_trace at hF
  refine z_aload_n X dX11_trace_0 rfl 0 rfl ?_
  refine z_get (v := .ref (a_t 8)) X k_X11_trace_67 0 rfl rfl dX11_trace_1 ?_
  refine z_aload_n X dX11_trace_4 rfl 0 rfl ?_
  refine z_get (v := .ref (a_t 2)) X k_X11_trace_26 0 rfl rfl dX11_trace_5 ?_
  refine z_aload_n X dX11_trace_8 rfl 0 rfl ?_
  refine z_get (v := .ref (a_t 2)) X k_X11_trace_26 0 rfl rfl dX11_trace_9 ?_
  refine z_get (v := .ref (a_t_state 1)) X k_X11_trace_160 2 rfl rfl dX11_trace_12 ?_
  refine z_get (v := .int (o_t_state_shelf 0 0)) X k_X11_trace_163 9 rfl rfl dX11_trace_15 ?_
  refine z_iconst (v := (-1 : Int32)) X dX11_trace_18 (by decide) ?_
  obtain ⟨o1, hc2, hF⟩ := zb1_e hF
  refine z_Vv (As := [.ref (a_t 2), .int (o_t_state_shelf 0 0), .int (-1 : Int32)]) (rest := []) (wc := (w_X5_follow cA (a_t 8) a_t_planner 10496 o_t_planner (a_t 2) a_t_state o_t_state a_t_state_wares o_t_state_wares a_t_state_shelf o_t_state_shelf a_t_state_log o_t_state_log)) (wc' := (w_X5_follow cA (a_t 8) a_t_planner 10496 o1 (a_t 2) a_t_state o_t_state a_t_state_wares o_t_state_wares a_t_state_shelf o_t_state_shelf a_t_state_log o_t_state_log)) (ws' := (w_X11_leastPaid cA h_t a_t o_t a_t_state o_t_state a_t_state_wares o_t_state_wares a_t_state_shelf o_t_state_shelf a_t_state_log o_t_state_log a_t_planner o1)) X (cwV 3 X.2.2.2.2.1 gX11_trace_X5_follow rfl rfl rfl (by decide +kernel) (by rw [hR]; exact ⟨Nat.le_of_ble_eq_true rfl, Nat.le_of_ble_eq_true rfl⟩)) (fun sz => c_X5_follow l D cA g sz (a_t 8) a_t_planner 10496 o_t_planner (a_t 2) a_t_state o_t_state a_t_state_wares o_t_state_wares a_t_state_shelf o_t_state_shelf a_t_state_log o_t_state_log (o_t_state_shelf 0 0) (-1 : Int32) o1 hc2) [18, 19, 20, 21, 22, 23, 2, 3, 4, 5, 6, 7, 8, 9, 10, 11, 12, 13, 14, 15, 16, 17] [0, 1, 1006, 1007, 1008, 1009, 1010, 1011, 1012, 1013, 1014, 1015, 1016, 1017, 1018, 1019, 1020, 1021, 1000, 1001, 1002, 1003, 1004, 1005] rfl (by decide) rfl (by decide) rfl rfl rfl rfl rfl rfl (Nat.le_of_ble_eq_true rfl) dX11_trace_19 ⟨Nat.zero_le _, Nat.zero_le _⟩ ?_
  refine z_aload_n X dX11_trace_22 rfl 0 rfl ?_
  refine z_get (v := .ref (a_t 8)) X k_X11_trace_67 0 rfl rfl dX11_trace_23 ?_
  refine z_aload_n X dX11_trace_26 rfl 0 rfl ?_
  refine z_get (v := .ref (a_t 2)) X k_X11_trace_26 0 rfl rfl dX11_trace_27 ?_
  obtain ⟨o3, hc4, hF⟩ := zb1_e hF
  refine z_Vv (As := [.ref (a_t 2)]) (rest := []) (wc := (w_X5_servingCost cA (a_t 8) a_t_planner 10496 o1 (a_t 2) a_t_state o_t_state a_t_state_wares o_t_state_wares a_t_state_log o_t_state_log)) (wc' := (w_X5_servingCost cA (a_t 8) a_t_planner 10496 o3 (a_t 2) a_t_state o_t_state a_t_state_wares o_t_state_wares a_t_state_log o_t_state_log)) (ws' := (w_X11_leastPaid cA h_t a_t o_t a_t_state o_t_state a_t_state_wares o_t_state_wares a_t_state_shelf o_t_state_shelf a_t_state_log o_t_state_log a_t_planner o3)) X (cwV 1 X.2.2.2.2.1 gX11_trace_X5_trace rfl rfl rfl (by decide +kernel) (by rw [hR]; exact ⟨Nat.le_of_ble_eq_true rfl, Nat.le_of_ble_eq_true rfl⟩)) (fun sz => c_X5_trace l D cA g sz (a_t 8) a_t_planner 10496 o1 (a_t 2) a_t_state o_t_state a_t_state_wares o_t_state_wares a_t_state_log o_t_state_log o3 hc4) [18, 19, 20, 21, 22, 23, 2, 3, 4, 5, 6, 7, 8, 13, 14, 15, 16, 17] [0, 1, 1006, 1007, 1008, 1009, 1010, 1011, 1012, 9, 10, 11, 12, 1013, 1014, 1015, 1016, 1017, 1000, 1001, 1002, 1003, 1004, 1005] rfl (by decide) rfl (by decide) rfl rfl rfl rfl rfl rfl (Nat.le_of_ble_eq_true rfl) dX11_trace_30 ⟨Nat.zero_le _, Nat.zero_le _⟩ ?_
  cases hF
  exact z_vret X hA hQ hr dX11_trace_33 (Nat.le_refl _) (Nat.le_refl _)
set_option maxRecDepth 20000 in
theorem h_X11_plan_X11 : ∀ w ∈ wsX110, w ∈ wsX11_plan := by decide +kernel
set_option maxRecDepth 20000 in
theorem k_X11_plan_26 : ZF wsX11_plan RX11 26 11 2 RX11 TX11 15 := ⟨rfl, by decide, h_X11_plan_X11, by decide +kernel⟩
set_option maxRecDepth 20000 in
theorem k_X11_plan_67 : ZF wsX11_plan RX11 67 11 8 RX11 TX11 15 := ⟨rfl, by decide, h_X11_plan_X11, by decide +kernel⟩
set_option maxRecDepth 20000 in
theorem h_X11_plan_X9 : ∀ w ∈ wsX90, w ∈ wsX11_plan := by decide +kernel
set_option maxRecDepth 20000 in
theorem k_X11_plan_143 : ZF wsX11_plan RX11 143 9 2 RX9 TX9 7 := ⟨rfl, by decide, h_X11_plan_X9, by decide +kernel⟩
set_option maxRecDepth 20000 in
theorem h_X11_plan_X5 : ∀ w ∈ wsX50, w ∈ wsX11_plan := by decide +kernel
set_option maxRecDepth 20000 in
theorem k_X11_plan_335 : ZF wsX11_plan RX11 335 5 9 RX5 TX5 10 := ⟨rfl, by decide, h_X11_plan_X5, by decide +kernel⟩
set_option maxHeartbeats 8000000 in
set_option maxRecDepth 100000 in
theorem c_X11_plan (l : Launch) (D : va_G) (cA : Nat → ClassId) (g : Nat → Nat) (sz : Nat) (h_t : Nat) (a_t : Nat → Nat) (o_t : Ob) (a_t_state : Nat → Nat) (o_t_state : Ob) (a_t_state_wares : Nat → Nat) (o_t_state_wares : Ob) (a_t_state_shelf : Nat → Nat) (o_t_state_shelf : Ob) (a_t_state_log : Nat → Nat) (o_t_state_log : Ob) (a_t_planner : Nat → Nat) (o_t_planner : Ob) (v1 : Int32) (v2 : Int32) (o_t_planner' : Ob) (rv : Int32) (hF : f_X11_plan o_t_state_wares o_t_state_shelf o_t_state_log o_t_planner v1 v2 = some (o_t_planner', rv)) : Met l yX11_plan wsX11_plan ({ frames := 4, cells := 0, slots := 0, locals := 95 }) (va_Pc [.ref h_t, .int v1, .int v2] (PreW D cA g sz (w_X11_leastPaid cA h_t a_t o_t a_t_state o_t_state a_t_state_wares o_t_state_wares a_t_state_shelf o_t_state_shelf a_t_state_log o_t_state_log a_t_planner o_t_planner))) (va_Qi (fun (r : Int32) (_ : Unit) => r = rv) (PostW D cA sz (w_X11_leastPaid cA h_t a_t o_t a_t_state o_t_state a_t_state_wares o_t_state_wares a_t_state_shelf o_t_state_shelf a_t_state_log o_t_state_log a_t_planner o_t_planner) (w_X11_leastPaid cA h_t a_t o_t a_t_state o_t_state a_t_state_wares o_t_state_wares a_t_state_shelf o_t_state_shelf a_t_state_log o_t_state_log a_t_planner o_t_planner')) (va_A (w_X11_leastPaid cA h_t a_t o_t a_t_state o_t_state a_t_state_wares o_t_state_wares a_t_state_shelf o_t_state_shelf a_t_state_log o_t_state_log a_t_planner o_t_planner) sz)) 0 0 (va_A (w_X11_leastPaid cA h_t a_t o_t a_t_state o_t_state a_t_state_wares o_t_state_wares a_t_state_shelf o_t_state_shelf a_t_state_log o_t_state_log a_t_planner o_t_planner) sz) := by
  refine z_start (cc := cX11_plan) (maxL := 3) (ret := (some .int)) (lv0 := [(0, .ref h_t), (1, .int v1), (2, .int v2)]) (Qc := fun sz => va_Qi (fun (r : Int32) (_ : Unit) => r = rv) (PostW D cA sz (w_X11_leastPaid cA h_t a_t o_t a_t_state o_t_state a_t_state_wares o_t_state_wares a_t_state_shelf o_t_state_shelf a_t_state_log o_t_state_log a_t_planner o_t_planner) (w_X11_leastPaid cA h_t a_t o_t a_t_state o_t_state a_t_state_wares o_t_state_wares a_t_state_shelf o_t_state_shelf a_t_state_log o_t_state_log a_t_planner o_t_planner')) (va_A (w_X11_leastPaid cA h_t a_t o_t a_t_state o_t_state a_t_state_wares o_t_state_wares a_t_state_shelf o_t_state_shelf a_t_state_log o_t_state_log a_t_planner o_t_planner) sz)) (free := fun sz => va_A (w_X11_leastPaid cA h_t a_t o_t a_t_state o_t_state a_t_state_wares o_t_state_wares a_t_state_shelf o_t_state_shelf a_t_state_log o_t_state_log a_t_planner o_t_planner) sz) (by decide +kernel) rfl rfl (Nat.le_of_ble_eq_true rfl) ?_
  intro p e R s m args below meth c A Q hR hA hQ X hr hin
  unfold f_X11_plan at hF
  refine z_aload_n X dX11_plan_0 rfl 0 rfl ?_
  refine z_get (v := .ref (a_t 2)) X k_X11_plan_26 0 rfl rfl dX11_plan_1 ?_
  refine z_get (v := .ref (a_t_state 2)) X k_X11_plan_143 2 rfl rfl dX11_plan_4 ?_
  refine z_iload_n X dX11_plan_7 rfl 1 rfl ?_
  obtain ⟨r1, hc2, hF⟩ := zb1_e hF
  refine z_Vi (As := [.int v1]) (rest := []) (wc := (w_X4_has cA (a_t_state 2) a_t_state_log o_t_state_log)) (wc' := (w_X4_has cA (a_t_state 2) a_t_state_log o_t_state_log)) (ws' := (w_X11_leastPaid cA h_t a_t o_t a_t_state o_t_state a_t_state_wares o_t_state_wares a_t_state_shelf o_t_state_shelf a_t_state_log o_t_state_log a_t_planner o_t_planner)) (rv := r1) X (cwV 1 X.2.2.2.2.1 gX11_plan_X4_has rfl rfl rfl (by decide +kernel) (by rw [hR]; exact ⟨Nat.le_of_ble_eq_true rfl, Nat.le_of_ble_eq_true rfl⟩)) (fun sz => c_X4_has l D cA g sz (a_t_state 2) a_t_state_log o_t_state_log v1 r1 hc2) [13, 14, 15, 16, 17] [0, 1, 2, 3, 4, 5, 6, 7, 8, 9, 10, 11, 12, 1000, 1001, 1002, 1003, 1004, 18, 19, 20, 21, 22, 23] rfl (by decide) rfl (by decide) rfl rfl rfl rfl rfl rfl (Nat.le_of_ble_eq_true rfl) dX11_plan_8 ⟨Nat.zero_le _, Nat.zero_le _⟩ ?_
  have hF := if_e hF
  refine z_if_eq (tgt := 23) X dX11_plan_11 (by decide) (fun c11 => ?_) (fun c11 => ?_)
  · have hF := hF.1 c11
    refine z_iconst (v := (-1 : Int32)) X dX11_plan_23 (by decide) ?_
    cases hF
    exact z_iret X hA hQ hr rfl dX11_plan_24 (Nat.le_refl _) (Nat.le_refl _)
  · have hF := hF.2 c11
    refine z_iload_n X dX11_plan_14 rfl 2 rfl ?_
    have hF := if_e hF
    refine z_if_lt (tgt := 23) X dX11_plan_15 (by decide) (fun c10 => ?_) (fun c10 => ?_)
    · have hF := hF.1 c10
      refine z_iconst (v := (-1 : Int32)) X dX11_plan_23 (by decide) ?_
      cases hF
      exact z_iret X hA hQ hr rfl dX11_plan_24 (Nat.le_refl _) (Nat.le_refl _)
    · have hF := hF.2 c10
      refine z_iload_n X dX11_plan_18 rfl 2 rfl ?_
      refine z_iconst (v := (1 : Int32)) X dX11_plan_19 (by decide) ?_
      have hF := if_e hF
      refine z_icmp_le (tgt := 25) X dX11_plan_20 (by decide) (fun c9 => ?_) (fun c9 => ?_)
      · have hF := hF.1 c9
        refine z_aload_n X dX11_plan_25 rfl 0 rfl ?_
        obtain ⟨o3, hc4, hF⟩ := zb1_e hF
        refine z_Vv (As := []) (rest := []) (wc := (w_X11_leastPaid cA h_t a_t o_t a_t_state o_t_state a_t_state_wares o_t_state_wares a_t_state_shelf o_t_state_shelf a_t_state_log o_t_state_log a_t_planner o_t_planner)) (wc' := (w_X11_leastPaid cA h_t a_t o_t a_t_state o_t_state a_t_state_wares o_t_state_wares a_t_state_shelf o_t_state_shelf a_t_state_log o_t_state_log a_t_planner o3)) (ws' := (w_X11_leastPaid cA h_t a_t o_t a_t_state o_t_state a_t_state_wares o_t_state_wares a_t_state_shelf o_t_state_shelf a_t_state_log o_t_state_log a_t_planner o3)) X (cwV 0 X.2.2.2.2.1 gX11_plan_X11_trace rfl rfl rfl (by decide +kernel) (by rw [hR]; exact ⟨Nat.le_of_ble_eq_true rfl, Nat.le_of_ble_eq_true rfl⟩)) (fun sz => c_X11_trace l D cA g sz h_t a_t o_t a_t_state o_t_state a_t_state_wares o_t_state_wares a_t_state_shelf o_t_state_shelf a_t_state_log o_t_state_log a_t_planner o_t_planner o3 hc4) [0, 1, 2, 3, 4, 5, 6, 7, 8, 9, 10, 11, 12, 13, 14, 15, 16, 17, 18, 19, 20, 21, 22, 23] [1000, 1001, 1002, 1003, 1004, 1005, 1006, 1007, 1008, 1009, 1010, 1011, 1012, 1013, 1014, 1015, 1016, 1017, 1018, 1019, 1020, 1021, 1022, 1023] rfl (by decide) rfl (by decide) rfl rfl rfl rfl rfl rfl (Nat.le_of_ble_eq_true rfl) dX11_plan_26 ⟨Nat.zero_le _, Nat.zero_le _⟩ ?_
        refine z_iload_n X dX11_plan_29 rfl 2 rfl ?_
        have hF := if_e hF
        refine z_if_ne (tgt := 48) X dX11_plan_30 (by decide) (fun c8 => ?_) (fun c8 => ?_)
        · have hF := hF.2 c8
          refine z_aload_n X dX11_plan_48 rfl 0 rfl ?_
          refine z_get (v := .ref (a_t 8)) X k_X11_plan_67 0 rfl rfl dX11_plan_49 ?_
          refine z_get (v := .ref (a_t_planner 9)) X k_X11_plan_335 18 rfl rfl dX11_plan_52 ?_
          refine z_iload_n X dX11_plan_55 rfl 1 rfl ?_
          obtain ⟨g5, hF⟩ := gi_e hF
          refine z_iald X 23 rfl g5 dX11_plan_56 ?_
          cases hF
          exact z_iret X hA hQ hr rfl dX11_plan_57 (Nat.le_refl _) (Nat.le_refl _)
        · have hF := hF.1 c8
          refine z_aload_n X dX11_plan_33 rfl 0 rfl ?_
          refine z_get (v := .ref (a_t 8)) X k_X11_plan_67 0 rfl rfl dX11_plan_34 ?_
          refine z_aload_n X dX11_plan_37 rfl 0 rfl ?_
          refine z_get (v := .ref (a_t 2)) X k_X11_plan_26 0 rfl rfl dX11_plan_38 ?_
          refine z_iload_n X dX11_plan_41 rfl 1 rfl ?_
          obtain ⟨r6, hc7, hF⟩ := zb1_e hF
          refine z_Vi (As := [.ref (a_t 2), .int v1]) (rest := []) (wc := (w_X5_servingCost cA (a_t 8) a_t_planner 10496 o3 (a_t 2) a_t_state o_t_state a_t_state_wares o_t_state_wares a_t_state_log o_t_state_log)) (wc' := (w_X5_servingCost cA (a_t 8) a_t_planner 10496 o3 (a_t 2) a_t_state o_t_state a_t_state_wares o_t_state_wares a_t_state_log o_t_state_log)) (ws' := (w_X11_leastPaid cA h_t a_t o_t a_t_state o_t_state a_t_state_wares o_t_state_wares a_t_state_shelf o_t_state_shelf a_t_state_log o_t_state_log a_t_planner o3)) (rv := r6) X (cwV 2 X.2.2.2.2.1 gX11_plan_X5_paysAt rfl rfl rfl (by decide +kernel) (by rw [hR]; exact ⟨Nat.le_of_ble_eq_true rfl, Nat.le_of_ble_eq_true rfl⟩)) (fun sz => c_X5_paysAt l D cA g sz (a_t 8) a_t_planner 10496 o3 (a_t 2) a_t_state o_t_state a_t_state_wares o_t_state_wares a_t_state_log o_t_state_log v1 r6 hc7) [18, 19, 20, 21, 22, 23, 2, 3, 4, 5, 6, 7, 8, 13, 14, 15, 16, 17] [0, 1, 1006, 1007, 1008, 1009, 1010, 1011, 1012, 9, 10, 11, 12, 1013, 1014, 1015, 1016, 1017, 1000, 1001, 1002, 1003, 1004, 1005] rfl (by decide) rfl (by decide) rfl rfl rfl rfl rfl rfl (Nat.le_of_ble_eq_true rfl) dX11_plan_42 ⟨Nat.zero_le _, Nat.zero_le _⟩ ?_
          refine z_goto (tgt := 57) X dX11_plan_45 (by decide) ?_
          cases hF
          exact z_iret X hA hQ hr rfl dX11_plan_57 (Nat.le_refl _) (Nat.le_refl _)
      · have hF := hF.2 c9
        refine z_iconst (v := (-1 : Int32)) X dX11_plan_23 (by decide) ?_
        cases hF
        exact z_iret X hA hQ hr rfl dX11_plan_24 (Nat.le_refl _) (Nat.le_refl _)
