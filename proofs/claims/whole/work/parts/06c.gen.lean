set_option maxRecDepth 20000 in
theorem h_X6_readRun_X6 : ∀ w ∈ wsX60, w ∈ wsX6_readRun := by decide +kernel
set_option maxRecDepth 20000 in
theorem k_X6_readRun_11 : ZF wsX6_readRun RX6 11 6 0 RX6 TX6 17 := ⟨rfl, by decide, h_X6_readRun_X6, by decide +kernel⟩
set_option maxRecDepth 20000 in
theorem k_X6_readRun_24 : ZF wsX6_readRun RX6 24 6 1 RX6 TX6 17 := ⟨rfl, by decide, h_X6_readRun_X6, by decide +kernel⟩
set_option maxRecDepth 20000 in
theorem k_X6_readRun_50 : ZF wsX6_readRun RX6 50 6 13 RX6 TX6 17 := ⟨rfl, by decide, h_X6_readRun_X6, by decide +kernel⟩
set_option maxRecDepth 20000 in
theorem k_X6_readRun_97 : ZF wsX6_readRun RX6 97 6 16 RX6 TX6 17 := ⟨rfl, by decide, h_X6_readRun_X6, by decide +kernel⟩
set_option maxRecDepth 20000 in
theorem k_X6_readRun_139 : ZF wsX6_readRun RX6 139 6 15 RX6 TX6 17 := ⟨rfl, by decide, h_X6_readRun_X6, by decide +kernel⟩
set_option maxHeartbeats 8000000 in
set_option maxRecDepth 100000 in
theorem c_X6_readRun (l : Launch) (D : va_G) (cA : Nat → ClassId) (g : Nat → Nat) (sz : Nat) (h_t : Nat) (a_t : Nat → Nat) (o_t : Ob)  (o_t' : Ob) (hF : f_X6_readRun o_t = some o_t') : Met l yX6_readRun wsX6_readRun ({ frames := 0, cells := 0, slots := 0, locals := 0 }) (va_Pc [.ref h_t] (PreW D cA g sz (w_X6_hasPlaceFor cA h_t a_t o_t))) (va_Qv (fun (_ : Unit) => True) (PostW D cA sz (w_X6_hasPlaceFor cA h_t a_t o_t) (w_X6_hasPlaceFor cA h_t a_t o_t')) (va_A (w_X6_hasPlaceFor cA h_t a_t o_t) sz)) 0 0 (va_A (w_X6_hasPlaceFor cA h_t a_t o_t) sz) := by
  refine z_start (cc := cX6_readRun) (maxL := 4) (ret := none) (lv0 := [(0, .ref h_t)]) (Qc := fun sz => va_Qv (fun (_ : Unit) => True) (PostW D cA sz (w_X6_hasPlaceFor cA h_t a_t o_t) (w_X6_hasPlaceFor cA h_t a_t o_t')) (va_A (w_X6_hasPlaceFor cA h_t a_t o_t) sz)) (free := fun sz => va_A (w_X6_hasPlaceFor cA h_t a_t o_t) sz) (by decide +kernel) rfl rfl (Nat.le_of_ble_eq_true rfl) ?_
  intro p e R s m args below meth c A Q hR hA hQ X hr hin
  unfold f_X6_readRun at hF
  refine z_iconst (v := (0 : Int32)) X dX6_readRun_0 (by decide) ?_
  refine z_istore_n (lv' := [(1, .int (0 : Int32)), (0, .ref h_t)]) X dX6_readRun_1 rfl (by decide) rfl ?_
  refine z_iconst (v := (0 : Int32)) X dX6_readRun_2 (by decide) ?_
  refine z_istore_n (lv' := [(2, .int (0 : Int32)), (1, .int (0 : Int32)), (0, .ref h_t)]) X dX6_readRun_3 rfl (by decide) rfl ?_
  refine z_aload_n X dX6_readRun_4 rfl 2 rfl ?_
  refine z_iconst (v := (0 : Int32)) X dX6_readRun_5 (by decide) ?_
  obtain ⟨o1, eo1, hF⟩ := nx_e hF
  refine z_put (ws' := (w_X6_hasPlaceFor cA h_t a_t o1)) X k_X6_readRun_97 tyX6 tyX6_ok nmX6 rfl rfl 0 rfl (Nat.le_of_ble_eq_true rfl) (by rw [eo1]; rfl) dX6_readRun_6 ?_
  obtain ⟨o37, k38, k39, hL, hF⟩ := zb3_e hF
  have L52_x : ∀ (o37' : Ob) (k38' : Int32) (k39' : Int32), (o37', k38', k39') = (o37, k38, k39) → ZW p l e R s m args below meth c D A 4 0 0 Q (w_X6_hasPlaceFor cA h_t a_t o37') [(0, .ref h_t), (1, .int k38'), (2, .int k39')] 111 [] := by
    intro o37' k38' k39' hz
    cases hz
    refine z_iload_n X dX6_readRun_111 rfl 2 rfl ?_
    obtain ⟨K43, eK43, hF⟩ := nx_e hF
    have K43_l : ∀ (_ : Unit), K43 () = some o_t' → ZW p l e R s m args below meth c D A 4 0 0 Q (w_X6_hasPlaceFor cA h_t a_t o37) [(0, .ref h_t), (1, .int k38), (2, .int k39)] 129 [] := by
      intro _ hF
      rw [eK43] at hF
      refine z_aload_n X dX6_readRun_129 rfl 0 rfl ?_
      refine z_iload_n X dX6_readRun_130 rfl 1 rfl ?_
      have hF := if_e hF
      refine z_if_ne (tgt := 143) X dX6_readRun_131 (by decide) (fun c48 => ?_) (fun c48 => ?_)
      · have hF := hF.2 c48
        refine z_iconst (v := (0 : Int32)) X dX6_readRun_143 (by decide) ?_
        obtain ⟨o44, eo44, hF⟩ := nx_e hF
        refine z_put (ws' := (w_X6_hasPlaceFor cA h_t a_t o44)) X k_X6_readRun_50 tyX6 tyX6_ok nmX6 rfl rfl 0 rfl (Nat.le_of_ble_eq_true rfl) (by rw [eo44]; rfl) dX6_readRun_144 ?_
        cases hF
        exact z_vret X hA hQ hr dX6_readRun_147 (Nat.le_refl _) (Nat.le_refl _)
      · have hF := hF.1 c48
        refine z_iload_n X dX6_readRun_134 rfl 2 rfl ?_
        refine z_iconst (v := (2 : Int32)) X dX6_readRun_135 (by decide) ?_
        have hF := if_e hF
        refine z_icmp_gt (tgt := 143) X dX6_readRun_136 (by decide) (fun c47 => ?_) (fun c47 => ?_)
        · have hF := hF.1 c47
          refine z_iconst (v := (0 : Int32)) X dX6_readRun_143 (by decide) ?_
          obtain ⟨o45, eo45, hF⟩ := nx_e hF
          refine z_put (ws' := (w_X6_hasPlaceFor cA h_t a_t o45)) X k_X6_readRun_50 tyX6 tyX6_ok nmX6 rfl rfl 0 rfl (Nat.le_of_ble_eq_true rfl) (by rw [eo45]; rfl) dX6_readRun_144 ?_
          cases hF
          exact z_vret X hA hQ hr dX6_readRun_147 (Nat.le_refl _) (Nat.le_refl _)
        · have hF := hF.2 c47
          refine z_iconst (v := (3 : Int32)) X dX6_readRun_139 (by decide) ?_
          refine z_goto (tgt := 144) X dX6_readRun_140 (by decide) ?_
          obtain ⟨o46, eo46, hF⟩ := nx_e hF
          refine z_put (ws' := (w_X6_hasPlaceFor cA h_t a_t o46)) X k_X6_readRun_50 tyX6 tyX6_ok nmX6 rfl rfl 0 rfl (Nat.le_of_ble_eq_true rfl) (by rw [eo46]; rfl) dX6_readRun_144 ?_
          cases hF
          exact z_vret X hA hQ hr dX6_readRun_147 (Nat.le_refl _) (Nat.le_refl _)
    have hF := if_e hF
    refine z_if_ne (tgt := 129) X dX6_readRun_112 (by decide) (fun c51 => ?_) (fun c51 => ?_)
    · have hF := hF.2 c51
      refine z_lv (lv' := [(0, .ref h_t), (1, .int k38), (2, .int k39)]) [0, 1, 2] rfl ?_
      exact K43_l () hF
    · have hF := hF.1 c51
      refine z_iload_n X dX6_readRun_115 rfl 1 rfl ?_
      refine z_bipush (v := (6 : Int32)) X dX6_readRun_116 (by decide) ?_
      have hF := if_e hF
      refine z_icmp_gt (tgt := 129) X dX6_readRun_118 (by decide) (fun c50 => ?_) (fun c50 => ?_)
      · have hF := hF.1 c50
        refine z_lv (lv' := [(0, .ref h_t), (1, .int k38), (2, .int k39)]) [0, 1, 2] rfl ?_
        exact K43_l () hF
      · have hF := hF.2 c50
        refine z_aload_n X dX6_readRun_121 rfl 0 rfl ?_
        refine z_iconst (v := (2 : Int32)) X dX6_readRun_122 (by decide) ?_
        obtain ⟨o49, eo49, hF⟩ := nx_e hF
        refine z_put (ws' := (w_X6_hasPlaceFor cA h_t a_t o49)) X k_X6_readRun_50 tyX6 tyX6_ok nmX6 rfl rfl 0 rfl (Nat.le_of_ble_eq_true rfl) (by rw [eo49]; rfl) dX6_readRun_123 ?_
        refine z_goto (tgt := 147) X dX6_readRun_126 (by decide) ?_
        cases hF
        exact z_vret X hA hQ hr dX6_readRun_147 (Nat.le_refl _) (Nat.le_refl _)
  obtain ⟨B83, hBB83, hL⟩ := zl3_b hL
  have L52 : ∀ (n : Nat) (o34 : Ob) (k35 : Int32) (k36 : Int32), zl3 B83 n o34 k35 k36 = some (o37, k38, k39) → ZW p l e R s m args below meth c D A 4 0 0 Q (w_X6_hasPlaceFor cA h_t a_t o34) [(0, .ref h_t), (1, .int k35), (2, .int k36)] 9 [] := by
    intro n
    induction n with
    | zero => intro o34 k35 k36 hL; cases hL
    | succ n ih =>
      intro o34 k35 k36 hL
      obtain ⟨zz53, hF, hL⟩ := zl3_e hL
      rw [hBB83] at hF
      refine z_aload_n X dX6_readRun_9 rfl 0 rfl ?_
      refine z_get (v := .int (o34 15 0)) X k_X6_readRun_139 0 rfl rfl dX6_readRun_10 ?_
      refine z_aload_n X dX6_readRun_13 rfl 0 rfl ?_
      refine z_get (v := .int (o34 1 0)) X k_X6_readRun_24 0 rfl rfl dX6_readRun_14 ?_
      have hF := if_e hF
      refine z_icmp_ge (tgt := 111) X dX6_readRun_17 (by decide) (fun c82 => ?_) (fun c82 => ?_)
      · have hF := hF.1 c82
        cases hF
        have hL := Option.some.inj hL
        refine z_lv (lv' := [(0, .ref h_t), (1, .int k35), (2, .int k36)]) [0, 1, 2] rfl ?_
        exact L52_x o34 k35 k36 hL
      · have hF := hF.2 c82
        refine z_aload_n X dX6_readRun_20 rfl 0 rfl ?_
        refine z_get (v := .ref (a_t 0)) X k_X6_readRun_11 0 rfl rfl dX6_readRun_21 ?_
        refine z_aload_n X dX6_readRun_24 rfl 0 rfl ?_
        refine z_get (v := .int (o34 15 0)) X k_X6_readRun_139 0 rfl rfl dX6_readRun_25 ?_
        obtain ⟨g54, hF⟩ := gi_e hF
        refine z_iald X 1 rfl g54 dX6_readRun_28 ?_
        obtain ⟨x55, ex55, hF⟩ := nx_e hF
        refine z_nm ex55 ?_
        refine z_istore_n (lv' := [(3, .int x55), (0, .ref h_t), (1, .int k35), (2, .int k36)]) X dX6_readRun_29 rfl (by decide) rfl ?_
        refine z_iload_n X dX6_readRun_30 rfl 0 rfl ?_
        refine z_bipush (v := (97 : Int32)) X dX6_readRun_31 (by decide) ?_
        obtain ⟨K72, eK72, hF⟩ := nx_e hF
        have K72_l : ∀ (j69 : Int32) (j70 : Int32) (q71 : Ob), K72 j69 j70 q71 = some zz53 → ZW p l e R s m args below meth c D A 4 0 0 Q (w_X6_hasPlaceFor cA h_t a_t q71) [(0, .ref h_t), (1, .int j69), (2, .int j70)] 98 [] := by
          intro j69 j70 q71 hF
          rw [eK72] at hF
          refine z_aload_n X dX6_readRun_98 rfl 0 rfl ?_
          refine z_dup X dX6_readRun_99 rfl ?_
          refine z_get (v := .int (q71 15 0)) X k_X6_readRun_139 0 rfl rfl dX6_readRun_100 ?_
          refine z_iconst (v := (1 : Int32)) X dX6_readRun_103 (by decide) ?_
          refine z_iadd X dX6_readRun_104 ?_
          obtain ⟨o73, eo73, hF⟩ := nx_e hF
          refine z_put (ws' := (w_X6_hasPlaceFor cA h_t a_t o73)) X k_X6_readRun_139 tyX6 tyX6_ok nmX6 rfl rfl 0 rfl (Nat.le_of_ble_eq_true rfl) (by rw [eo73]; rfl) dX6_readRun_105 ?_
          refine z_goto (tgt := 9) X dX6_readRun_108 (by decide) ?_
          cases hF
          refine z_lv (lv' := [(0, .ref h_t), (1, .int j69), (2, .int j70)]) [0, 1, 2] rfl ?_
          exact ih o73 j69 j70 hL
        obtain ⟨K60, eK60, hF⟩ := nx_e hF
        have K60_l : ∀ (_ : Unit), K60 () = some zz53 → ZW p l e R s m args below meth c D A 4 0 0 Q (w_X6_hasPlaceFor cA h_t a_t o34) [(0, .ref h_t), (1, .int k35), (2, .int k36), (3, .int x55)] 67 [] := by
          intro _ hF
          rw [eK60] at hF
          refine z_iload_n X dX6_readRun_67 rfl 3 rfl ?_
          refine z_bipush (v := (48 : Int32)) X dX6_readRun_68 (by decide) ?_
          have hF := if_e hF
          refine z_icmp_lt (tgt := 111) X dX6_readRun_70 (by decide) (fun c77 => ?_) (fun c77 => ?_)
          · have hF := hF.1 c77
            cases hF
            have hL := Option.some.inj hL
            refine z_lv (lv' := [(0, .ref h_t), (1, .int k35), (2, .int k36)]) [0, 1, 2] rfl ?_
            exact L52_x o34 k35 k36 hL
          · have hF := hF.2 c77
            refine z_iload_n X dX6_readRun_73 rfl 3 rfl ?_
            refine z_bipush (v := (57 : Int32)) X dX6_readRun_74 (by decide) ?_
            have hF := if_e hF
            refine z_icmp_gt (tgt := 111) X dX6_readRun_76 (by decide) (fun c76 => ?_) (fun c76 => ?_)
            · have hF := hF.1 c76
              cases hF
              have hL := Option.some.inj hL
              refine z_lv (lv' := [(0, .ref h_t), (1, .int k35), (2, .int k36)]) [0, 1, 2] rfl ?_
              exact L52_x o34 k35 k36 hL
            · have hF := hF.2 c76
              refine z_aload_n X dX6_readRun_79 rfl 0 rfl ?_
              refine z_aload_n X dX6_readRun_80 rfl 0 rfl ?_
              refine z_get (v := .int (o34 16 0)) X k_X6_readRun_97 0 rfl rfl dX6_readRun_81 ?_
              refine z_bipush (v := (10 : Int32)) X dX6_readRun_84 (by decide) ?_
              refine z_imul X dX6_readRun_86 ?_
              refine z_iload_n X dX6_readRun_87 rfl 3 rfl ?_
              refine z_iadd X dX6_readRun_88 ?_
              refine z_bipush (v := (48 : Int32)) X dX6_readRun_89 (by decide) ?_
              refine z_isub X dX6_readRun_91 ?_
              obtain ⟨o74, eo74, hF⟩ := nx_e hF
              refine z_put (ws' := (w_X6_hasPlaceFor cA h_t a_t o74)) X k_X6_readRun_97 tyX6 tyX6_ok nmX6 rfl rfl 0 rfl (Nat.le_of_ble_eq_true rfl) (by rw [eo74]; rfl) dX6_readRun_92 ?_
              obtain ⟨x75, ex75, hF⟩ := nx_e hF
              refine z_iinc (v := x75) (lv' := [(2, .int x75), (0, .ref h_t), (1, .int k35), (3, .int x55)]) (j := 2) X dX6_readRun_95 rfl (by rw [ex75]; rfl) (by decide) rfl ?_
              refine z_lv (lv' := [(0, .ref h_t), (1, .int k35), (2, .int x75)]) [1, 2, 0] rfl ?_
              exact K72_l k35 x75 o74 hF
        have hF := if_e hF
        refine z_icmp_lt (tgt := 67) X dX6_readRun_33 (by decide) (fun c81 => ?_) (fun c81 => ?_)
        · have hF := hF.1 c81
          refine z_lv (lv' := [(0, .ref h_t), (1, .int k35), (2, .int k36), (3, .int x55)]) [1, 2, 3, 0] rfl ?_
          exact K60_l () hF
        · have hF := hF.2 c81
          refine z_iload_n X dX6_readRun_36 rfl 0 rfl ?_
          refine z_bipush (v := (122 : Int32)) X dX6_readRun_37 (by decide) ?_
          have hF := if_e hF
          refine z_icmp_gt (tgt := 67) X dX6_readRun_39 (by decide) (fun c80 => ?_) (fun c80 => ?_)
          · have hF := hF.1 c80
            refine z_lv (lv' := [(0, .ref h_t), (1, .int k35), (2, .int k36), (3, .int x55)]) [1, 2, 3, 0] rfl ?_
            exact K60_l () hF
          · have hF := hF.2 c80
            refine z_aload_n X dX6_readRun_42 rfl 1 rfl ?_
            refine z_dup X dX6_readRun_43 rfl ?_
            refine z_get (v := .int (o34 16 0)) X k_X6_readRun_97 0 rfl rfl dX6_readRun_44 ?_
            refine z_iload_n X dX6_readRun_47 rfl 0 rfl ?_
            refine z_bipush (v := (97 : Int32)) X dX6_readRun_48 (by decide) ?_
            refine z_isub X dX6_readRun_50 ?_
            refine z_iconst (v := (1 : Int32)) X dX6_readRun_51 (by decide) ?_
            refine z_iadd X dX6_readRun_52 ?_
            refine z_iconst (v := (5 : Int32)) X dX6_readRun_53 (by decide) ?_
            refine z_iload_n X dX6_readRun_54 rfl 2 rfl ?_
            refine z_imul X dX6_readRun_55 ?_
            refine z_ishl X dX6_readRun_56 ?_
            refine z_iadd X dX6_readRun_57 ?_
            obtain ⟨o78, eo78, hF⟩ := nx_e hF
            refine z_put (ws' := (w_X6_hasPlaceFor cA h_t a_t o78)) X k_X6_readRun_97 tyX6 tyX6_ok nmX6 rfl rfl 0 rfl (Nat.le_of_ble_eq_true rfl) (by rw [eo78]; rfl) dX6_readRun_58 ?_
            obtain ⟨x79, ex79, hF⟩ := nx_e hF
            refine z_iinc (v := x79) (lv' := [(1, .int x79), (3, .int x55), (0, .ref h_t), (2, .int k36)]) (j := 2) X dX6_readRun_61 rfl (by rw [ex79]; rfl) (by decide) rfl ?_
            refine z_goto (tgt := 98) X dX6_readRun_64 (by decide) ?_
            refine z_lv (lv' := [(0, .ref h_t), (1, .int x79), (2, .int k36)]) [2, 0, 3] rfl ?_
            exact K72_l x79 k36 o78 hF
  refine z_lv (lv' := [(0, .ref h_t), (1, .int (0 : Int32)), (2, .int (0 : Int32))]) [2, 1, 0] rfl ?_
  exact L52 FU o1 (0 : Int32) (0 : Int32) hL
set_option maxHeartbeats 8000000 in
set_option maxRecDepth 100000 in
theorem c_X6_isSign (l : Launch) (D : va_G) (cA : Nat → ClassId) (g : Nat → Nat) (sz : Nat)  (v0 : Int32) (rv : Int32) (hF : f_X6_isSign v0 = some rv) : Met l yX6_isSign wsX6_isSign ({ frames := 0, cells := 0, slots := 0, locals := 0 }) (va_Pc [.int v0] (PreW D cA g sz ([] : va_W))) (va_Qi (fun (r : Int32) (_ : Unit) => r = rv) (PostW D cA sz ([] : va_W) ([] : va_W)) (va_A ([] : va_W) sz)) 0 0 (va_A ([] : va_W) sz) := by
  refine z_start (cc := cX6_isSign) (maxL := 1) (ret := (some .boolean)) (lv0 := [(0, .int v0)]) (Qc := fun sz => va_Qi (fun (r : Int32) (_ : Unit) => r = rv) (PostW D cA sz ([] : va_W) ([] : va_W)) (va_A ([] : va_W) sz)) (free := fun sz => va_A ([] : va_W) sz) (by decide +kernel) rfl rfl (Nat.le_of_ble_eq_true rfl) ?_
  intro p e R s m args below meth c A Q hR hA hQ X hr hin
  unfold f_X6_isSign at hF
  refine z_iload_n X dX6_isSign_0 rfl 0 rfl ?_
  refine z_bipush (v := (59 : Int32)) X dX6_isSign_1 (by decide) ?_
  have hF := if_e hF
  refine z_icmp_eq (tgt := 18) X dX6_isSign_3 (by decide) (fun c3 => ?_) (fun c3 => ?_)
  · have hF := hF.1 c3
    refine z_iconst (v := (1 : Int32)) X dX6_isSign_18 (by decide) ?_
    refine z_goto (tgt := 23) X dX6_isSign_19 (by decide) ?_
    cases hF
    exact z_zret X hA hQ hr (Or.inr rfl)  rfl dX6_isSign_23 (Nat.le_refl _) (Nat.le_refl _)
  · have hF := hF.2 c3
    refine z_iload_n X dX6_isSign_6 rfl 0 rfl ?_
    refine z_bipush (v := (91 : Int32)) X dX6_isSign_7 (by decide) ?_
    have hF := if_e hF
    refine z_icmp_eq (tgt := 18) X dX6_isSign_9 (by decide) (fun c2 => ?_) (fun c2 => ?_)
    · have hF := hF.1 c2
      refine z_iconst (v := (1 : Int32)) X dX6_isSign_18 (by decide) ?_
      refine z_goto (tgt := 23) X dX6_isSign_19 (by decide) ?_
      cases hF
      exact z_zret X hA hQ hr (Or.inr rfl)  rfl dX6_isSign_23 (Nat.le_refl _) (Nat.le_refl _)
    · have hF := hF.2 c2
      refine z_iload_n X dX6_isSign_12 rfl 0 rfl ?_
      refine z_bipush (v := (93 : Int32)) X dX6_isSign_13 (by decide) ?_
      have hF := if_e hF
      refine z_icmp_ne (tgt := 22) X dX6_isSign_15 (by decide) (fun c1 => ?_) (fun c1 => ?_)
      · have hF := hF.2 c1
        refine z_iconst (v := (0 : Int32)) X dX6_isSign_22 (by decide) ?_
        cases hF
        exact z_zret X hA hQ hr (Or.inl rfl)  rfl dX6_isSign_23 (Nat.le_refl _) (Nat.le_refl _)
      · have hF := hF.1 c1
        refine z_iconst (v := (1 : Int32)) X dX6_isSign_18 (by decide) ?_
        refine z_goto (tgt := 23) X dX6_isSign_19 (by decide) ?_
        cases hF
        exact z_zret X hA hQ hr (Or.inr rfl)  rfl dX6_isSign_23 (Nat.le_refl _) (Nat.le_refl _)
set_option maxRecDepth 20000 in
theorem h_X6_advance_X6 : ∀ w ∈ wsX60, w ∈ wsX6_advance := by decide +kernel
set_option maxRecDepth 20000 in
theorem k_X6_advance_11 : ZF wsX6_advance RX6 11 6 0 RX6 TX6 17 := ⟨rfl, by decide, h_X6_advance_X6, by decide +kernel⟩
set_option maxRecDepth 20000 in
theorem k_X6_advance_24 : ZF wsX6_advance RX6 24 6 1 RX6 TX6 17 := ⟨rfl, by decide, h_X6_advance_X6, by decide +kernel⟩
set_option maxRecDepth 20000 in
theorem k_X6_advance_50 : ZF wsX6_advance RX6 50 6 13 RX6 TX6 17 := ⟨rfl, by decide, h_X6_advance_X6, by decide +kernel⟩
set_option maxRecDepth 20000 in
theorem k_X6_advance_139 : ZF wsX6_advance RX6 139 6 15 RX6 TX6 17 := ⟨rfl, by decide, h_X6_advance_X6, by decide +kernel⟩
set_option maxRecDepth 20000 in
theorem k_X6_advance_142 : ZF wsX6_advance RX6 142 6 14 RX6 TX6 17 := ⟨rfl, by decide, h_X6_advance_X6, by decide +kernel⟩
set_option maxHeartbeats 8000000 in
set_option maxRecDepth 100000 in
theorem c_X6_advance (l : Launch) (D : va_G) (cA : Nat → ClassId) (g : Nat → Nat) (sz : Nat) (h_t : Nat) (a_t : Nat → Nat) (o_t : Ob)  (o_t' : Ob) (hF : f_X6_advance o_t = some o_t') : Met l yX6_advance wsX6_advance ({ frames := 1, cells := 0, slots := 0, locals := 23 }) (va_Pc [.ref h_t] (PreW D cA g sz (w_X6_hasPlaceFor cA h_t a_t o_t))) (va_Qv (fun (_ : Unit) => True) (PostW D cA sz (w_X6_hasPlaceFor cA h_t a_t o_t) (w_X6_hasPlaceFor cA h_t a_t o_t')) (va_A (w_X6_hasPlaceFor cA h_t a_t o_t) sz)) 0 0 (va_A (w_X6_hasPlaceFor cA h_t a_t o_t) sz) := by
  refine z_start (cc := cX6_advance) (maxL := 1) (ret := none) (lv0 := [(0, .ref h_t)]) (Qc := fun sz => va_Qv (fun (_ : Unit) => True) (PostW D cA sz (w_X6_hasPlaceFor cA h_t a_t o_t) (w_X6_hasPlaceFor cA h_t a_t o_t')) (va_A (w_X6_hasPlaceFor cA h_t a_t o_t) sz)) (free := fun sz => va_A (w_X6_hasPlaceFor cA h_t a_t o_t) sz) (by decide +kernel) rfl rfl (Nat.le_of_ble_eq_true rfl) ?_
  intro p e R s m args below meth c A Q hR hA hQ X hr hin
  unfold f_X6_advance at hF
  obtain ⟨o7, hL, hF⟩ := zb1_e hF
  have L25_x : ∀ (o7' : Ob), o7' = o7 → ZW p l e R s m args below meth c D A 1 0 0 Q (w_X6_hasPlaceFor cA h_t a_t o7') [(0, .ref h_t)] 38 [] := by
    intro o7' hz
    cases hz
    refine z_aload_n X dX6_advance_38 rfl 0 rfl ?_
    refine z_aload_n X dX6_advance_39 rfl 0 rfl ?_
    refine z_get (v := .int (o7 15 0)) X k_X6_advance_139 0 rfl rfl dX6_advance_40 ?_
    obtain ⟨o8, eo8, hF⟩ := nx_e hF
    refine z_put (ws' := (w_X6_hasPlaceFor cA h_t a_t o8)) X k_X6_advance_142 tyX6 tyX6_ok nmX6 rfl rfl 0 rfl (Nat.le_of_ble_eq_true rfl) (by rw [eo8]; rfl) dX6_advance_43 ?_
    refine z_aload_n X dX6_advance_46 rfl 0 rfl ?_
    refine z_get (v := .int (o8 15 0)) X k_X6_advance_139 0 rfl rfl dX6_advance_47 ?_
    refine z_aload_n X dX6_advance_50 rfl 0 rfl ?_
    refine z_get (v := .int (o8 1 0)) X k_X6_advance_24 0 rfl rfl dX6_advance_51 ?_
    have hF := if_e hF
    refine z_icmp_lt (tgt := 63) X dX6_advance_54 (by decide) (fun c24 => ?_) (fun c24 => ?_)
    · have hF := hF.1 c24
      refine z_aload_n X dX6_advance_63 rfl 0 rfl ?_
      obtain ⟨o9, hc10, hF⟩ := zb1_e hF
      refine z_Vv (As := []) (rest := []) (wc := (w_X6_hasPlaceFor cA h_t a_t o8)) (wc' := (w_X6_hasPlaceFor cA h_t a_t o9)) (ws' := (w_X6_hasPlaceFor cA h_t a_t o9)) X (cwV 0 X.2.2.2.2.1 gX6_advance_X6_readRun rfl rfl rfl (by decide +kernel) (by rw [hR]; exact ⟨Nat.le_of_ble_eq_true rfl, Nat.le_of_ble_eq_true rfl⟩)) (fun sz => c_X6_readRun l D cA g sz h_t a_t o8 o9 hc10) [0, 1, 2, 3, 4] [1000, 1001, 1002, 1003, 1004] rfl (by decide) rfl (by decide) rfl rfl rfl rfl rfl rfl (Nat.le_of_ble_eq_true rfl) dX6_advance_64 ⟨Nat.zero_le _, Nat.zero_le _⟩ ?_
      refine z_aload_n X dX6_advance_67 rfl 0 rfl ?_
      refine z_get (v := .int (o9 15 0)) X k_X6_advance_139 0 rfl rfl dX6_advance_68 ?_
      refine z_aload_n X dX6_advance_71 rfl 0 rfl ?_
      refine z_get (v := .int (o9 14 0)) X k_X6_advance_142 0 rfl rfl dX6_advance_72 ?_
      have hF := if_e hF
      refine z_icmp_ne (tgt := 120) X dX6_advance_75 (by decide) (fun c22 => ?_) (fun c22 => ?_)
      · have hF := hF.2 c22
        cases hF
        exact z_vret X hA hQ hr dX6_advance_120 (Nat.le_refl _) (Nat.le_refl _)
      · have hF := hF.1 c22
        refine z_aload_n X dX6_advance_78 rfl 0 rfl ?_
        refine z_aload_n X dX6_advance_79 rfl 0 rfl ?_
        refine z_get (v := .ref (a_t 0)) X k_X6_advance_11 0 rfl rfl dX6_advance_80 ?_
        refine z_aload_n X dX6_advance_83 rfl 0 rfl ?_
        refine z_get (v := .int (o9 15 0)) X k_X6_advance_139 0 rfl rfl dX6_advance_84 ?_
        obtain ⟨g11, hF⟩ := gi_e hF
        refine z_iald X 1 rfl g11 dX6_advance_87 ?_
        obtain ⟨r12, hc13, hF⟩ := zb1_e hF
        refine z_Si (As := [.int (o9 0 (Int32.toNatClampNeg (o9 15 0)))]) (rest := [.ref h_t]) (wc := ([] : va_W)) (wc' := ([] : va_W)) (ws' := (w_X6_hasPlaceFor cA h_t a_t o9)) (rv := r12) X (va_cwS 1 X.2.2.2.2.1 gX6_advance_X6_isSign rfl rfl rfl (by decide +kernel) (by rw [hR]; exact ⟨Nat.le_of_ble_eq_true rfl, Nat.le_of_ble_eq_true rfl⟩)) (fun sz => c_X6_isSign l D cA g sz (o9 0 (Int32.toNatClampNeg (o9 15 0))) r12 hc13) [] [0, 1, 2, 3, 4] rfl (by decide) rfl (by decide) rfl rfl rfl (Nat.le_of_ble_eq_true rfl) dX6_advance_88 ⟨Nat.zero_le _, Nat.zero_le _⟩ ?_
        obtain ⟨K17, eK17, hF⟩ := nx_e hF
        have K17_l : ∀ (j16 : Int32), K17 j16 = some o_t' → ZW p l e R s m args below meth c D A 1 0 0 Q (w_X6_hasPlaceFor cA h_t a_t o9) [(0, .ref h_t)] 107 [.int j16, .ref h_t] := by
          intro j16 hF
          rw [eK17] at hF
          obtain ⟨o18, eo18, hF⟩ := nx_e hF
          refine z_put (ws' := (w_X6_hasPlaceFor cA h_t a_t o18)) X k_X6_advance_50 tyX6 tyX6_ok nmX6 rfl rfl 0 rfl (Nat.le_of_ble_eq_true rfl) (by rw [eo18]; rfl) dX6_advance_107 ?_
          refine z_aload_n X dX6_advance_110 rfl 0 rfl ?_
          refine z_dup X dX6_advance_111 rfl ?_
          refine z_get (v := .int (o18 15 0)) X k_X6_advance_139 0 rfl rfl dX6_advance_112 ?_
          refine z_iconst (v := (1 : Int32)) X dX6_advance_115 (by decide) ?_
          refine z_iadd X dX6_advance_116 ?_
          obtain ⟨o19, eo19, hF⟩ := nx_e hF
          refine z_put (ws' := (w_X6_hasPlaceFor cA h_t a_t o19)) X k_X6_advance_139 tyX6 tyX6_ok nmX6 rfl rfl 0 rfl (Nat.le_of_ble_eq_true rfl) (by rw [eo19]; rfl) dX6_advance_117 ?_
          cases hF
          exact z_vret X hA hQ hr dX6_advance_120 (Nat.le_refl _) (Nat.le_refl _)
        have hF := if_e hF
        refine z_if_eq (tgt := 106) X dX6_advance_91 (by decide) (fun c21 => ?_) (fun c21 => ?_)
        · have hF := hF.1 c21
          refine z_iconst (v := (0 : Int32)) X dX6_advance_106 (by decide) ?_
          refine z_lv (lv' := [(0, .ref h_t)]) [0] rfl ?_
          exact K17_l (0 : Int32) hF
        · have hF := hF.2 c21
          refine z_aload_n X dX6_advance_94 rfl 0 rfl ?_
          refine z_get (v := .ref (a_t 0)) X k_X6_advance_11 0 rfl rfl dX6_advance_95 ?_
          refine z_aload_n X dX6_advance_98 rfl 0 rfl ?_
          refine z_get (v := .int (o9 15 0)) X k_X6_advance_139 0 rfl rfl dX6_advance_99 ?_
          obtain ⟨g20, hF⟩ := gi_e hF
          refine z_iald X 1 rfl g20 dX6_advance_102 ?_
          refine z_goto (tgt := 107) X dX6_advance_103 (by decide) ?_
          refine z_lv (lv' := [(0, .ref h_t)]) [0] rfl ?_
          exact K17_l (o9 0 (Int32.toNatClampNeg (o9 15 0))) hF
    · have hF := hF.2 c24
      refine z_aload_n X dX6_advance_57 rfl 0 rfl ?_
      refine z_iconst (v := (1 : Int32)) X dX6_advance_58 (by decide) ?_
      obtain ⟨o23, eo23, hF⟩ := nx_e hF
      refine z_put (ws' := (w_X6_hasPlaceFor cA h_t a_t o23)) X k_X6_advance_50 tyX6 tyX6_ok nmX6 rfl rfl 0 rfl (Nat.le_of_ble_eq_true rfl) (by rw [eo23]; rfl) dX6_advance_59 ?_
      cases hF
      exact z_vret X hA hQ hr dX6_advance_62 (Nat.le_refl _) (Nat.le_refl _)
  obtain ⟨B31, hBB31, hL⟩ := zl1_b hL
  have L25 : ∀ (n : Nat) (o6 : Ob), zl1 B31 n o6 = some o7 → ZW p l e R s m args below meth c D A 1 0 0 Q (w_X6_hasPlaceFor cA h_t a_t o6) [(0, .ref h_t)] 0 [] := by
    intro n
    induction n with
    | zero => intro o6 hL; cases hL
    | succ n ih =>
      intro o6 hL
      obtain ⟨zz26, hF, hL⟩ := zl1_e hL
      rw [hBB31] at hF
      refine z_aload_n X dX6_advance_0 rfl 0 rfl ?_
      refine z_get (v := .int (o6 15 0)) X k_X6_advance_139 0 rfl rfl dX6_advance_1 ?_
      refine z_aload_n X dX6_advance_4 rfl 0 rfl ?_
      refine z_get (v := .int (o6 1 0)) X k_X6_advance_24 0 rfl rfl dX6_advance_5 ?_
      have hF := if_e hF
      refine z_icmp_ge (tgt := 38) X dX6_advance_8 (by decide) (fun c30 => ?_) (fun c30 => ?_)
      · have hF := hF.1 c30
        cases hF
        have hL := Option.some.inj hL
        refine z_lv (lv' := [(0, .ref h_t)]) [0] rfl ?_
        exact L25_x o6 hL
      · have hF := hF.2 c30
        refine z_aload_n X dX6_advance_11 rfl 0 rfl ?_
        refine z_get (v := .ref (a_t 0)) X k_X6_advance_11 0 rfl rfl dX6_advance_12 ?_
        refine z_aload_n X dX6_advance_15 rfl 0 rfl ?_
        refine z_get (v := .int (o6 15 0)) X k_X6_advance_139 0 rfl rfl dX6_advance_16 ?_
        obtain ⟨g27, hF⟩ := gi_e hF
        refine z_iald X 1 rfl g27 dX6_advance_19 ?_
        refine z_bipush (v := (32 : Int32)) X dX6_advance_20 (by decide) ?_
        have hF := if_e hF
        refine z_icmp_ne (tgt := 38) X dX6_advance_22 (by decide) (fun c29 => ?_) (fun c29 => ?_)
        · have hF := hF.2 c29
          cases hF
          have hL := Option.some.inj hL
          refine z_lv (lv' := [(0, .ref h_t)]) [0] rfl ?_
          exact L25_x o6 hL
        · have hF := hF.1 c29
          refine z_aload_n X dX6_advance_25 rfl 0 rfl ?_
          refine z_dup X dX6_advance_26 rfl ?_
          refine z_get (v := .int (o6 15 0)) X k_X6_advance_139 0 rfl rfl dX6_advance_27 ?_
          refine z_iconst (v := (1 : Int32)) X dX6_advance_30 (by decide) ?_
          refine z_iadd X dX6_advance_31 ?_
          obtain ⟨o28, eo28, hF⟩ := nx_e hF
          refine z_put (ws' := (w_X6_hasPlaceFor cA h_t a_t o28)) X k_X6_advance_139 tyX6 tyX6_ok nmX6 rfl rfl 0 rfl (Nat.le_of_ble_eq_true rfl) (by rw [eo28]; rfl) dX6_advance_32 ?_
          refine z_goto (tgt := 0) X dX6_advance_35 (by decide) ?_
          cases hF
          refine z_lv (lv' := [(0, .ref h_t)]) [0] rfl ?_
          exact ih o28 hL
  refine z_lv (lv' := [(0, .ref h_t)]) [0] rfl ?_
  exact L25 FU o_t hL
set_option maxRecDepth 20000 in
theorem h_X6_start_X6 : ∀ w ∈ wsX60, w ∈ wsX6_start := by decide +kernel
set_option maxRecDepth 20000 in
theorem k_X6_start_24 : ZF wsX6_start RX6 24 6 1 RX6 TX6 17 := ⟨rfl, by decide, h_X6_start_X6, by decide +kernel⟩
set_option maxRecDepth 20000 in
theorem k_X6_start_113 : ZF wsX6_start RX6 113 6 2 RX6 TX6 17 := ⟨rfl, by decide, h_X6_start_X6, by decide +kernel⟩
set_option maxRecDepth 20000 in
theorem k_X6_start_139 : ZF wsX6_start RX6 139 6 15 RX6 TX6 17 := ⟨rfl, by decide, h_X6_start_X6, by decide +kernel⟩
set_option maxRecDepth 20000 in
theorem k_X6_start_142 : ZF wsX6_start RX6 142 6 14 RX6 TX6 17 := ⟨rfl, by decide, h_X6_start_X6, by decide +kernel⟩
set_option maxHeartbeats 8000000 in
set_option maxRecDepth 100000 in
theorem c_X6_start (l : Launch) (D : va_G) (cA : Nat → ClassId) (g : Nat → Nat) (sz : Nat) (h_t : Nat) (a_t : Nat → Nat) (o_t : Ob)  (o_t' : Ob) (rv : Int32) (hF : f_X6_start o_t = some (o_t', rv)) : Met l yX6_start wsX6_start ({ frames := 2, cells := 0, slots := 0, locals := 43 }) (va_Pc [.ref h_t] (PreW D cA g sz (w_X6_hasPlaceFor cA h_t a_t o_t))) (va_Qi (fun (r : Int32) (_ : Unit) => r = rv) (PostW D cA sz (w_X6_hasPlaceFor cA h_t a_t o_t) (w_X6_hasPlaceFor cA h_t a_t o_t')) (va_A (w_X6_hasPlaceFor cA h_t a_t o_t) sz)) 0 0 (va_A (w_X6_hasPlaceFor cA h_t a_t o_t) sz) := by
  refine z_start (cc := cX6_start) (maxL := 1) (ret := (some .boolean)) (lv0 := [(0, .ref h_t)]) (Qc := fun sz => va_Qi (fun (r : Int32) (_ : Unit) => r = rv) (PostW D cA sz (w_X6_hasPlaceFor cA h_t a_t o_t) (w_X6_hasPlaceFor cA h_t a_t o_t')) (va_A (w_X6_hasPlaceFor cA h_t a_t o_t) sz)) (free := fun sz => va_A (w_X6_hasPlaceFor cA h_t a_t o_t) sz) (by decide +kernel) rfl rfl (Nat.le_of_ble_eq_true rfl) ?_
  intro p e R s m args below meth c A Q hR hA hQ X hr hin
  unfold f_X6_start at hF
  refine z_aload_n X dX6_start_0 rfl 0 rfl ?_
  refine z_iconst (v := (0 : Int32)) X dX6_start_1 (by decide) ?_
  obtain ⟨o1, eo1, hF⟩ := nx_e hF
  refine z_put (ws' := (w_X6_hasPlaceFor cA h_t a_t o1)) X k_X6_start_113 tyX6 tyX6_ok nmX6 rfl rfl 0 rfl (Nat.le_of_ble_eq_true rfl) (by rw [eo1]; rfl) dX6_start_2 ?_
  refine z_aload_n X dX6_start_5 rfl 0 rfl ?_
  refine z_iconst (v := (0 : Int32)) X dX6_start_6 (by decide) ?_
  obtain ⟨o2, eo2, hF⟩ := nx_e hF
  refine z_put (ws' := (w_X6_hasPlaceFor cA h_t a_t o2)) X k_X6_start_139 tyX6 tyX6_ok nmX6 rfl rfl 0 rfl (Nat.le_of_ble_eq_true rfl) (by rw [eo2]; rfl) dX6_start_7 ?_
  refine z_aload_n X dX6_start_10 rfl 0 rfl ?_
  refine z_get (v := .int (o2 1 0)) X k_X6_start_24 0 rfl rfl dX6_start_11 ?_
  refine z_sipush (v := (400 : Int32)) X dX6_start_14 (by decide) ?_
  have hF := if_e hF
  refine z_icmp_le (tgt := 33) X dX6_start_17 (by decide) (fun c10 => ?_) (fun c10 => ?_)
  · have hF := hF.1 c10
    refine z_aload_n X dX6_start_33 rfl 0 rfl ?_
    obtain ⟨o3, hc4, hF⟩ := zb1_e hF
    refine z_Vv (As := []) (rest := []) (wc := (w_X6_hasPlaceFor cA h_t a_t o2)) (wc' := (w_X6_hasPlaceFor cA h_t a_t o3)) (ws' := (w_X6_hasPlaceFor cA h_t a_t o3)) X (cwV 0 X.2.2.2.2.1 gX6_start_X6_advance rfl rfl rfl (by decide +kernel) (by rw [hR]; exact ⟨Nat.le_of_ble_eq_true rfl, Nat.le_of_ble_eq_true rfl⟩)) (fun sz => c_X6_advance l D cA g sz h_t a_t o2 o3 hc4) [0, 1, 2, 3, 4] [1000, 1001, 1002, 1003, 1004] rfl (by decide) rfl (by decide) rfl rfl rfl rfl rfl rfl (Nat.le_of_ble_eq_true rfl) dX6_start_34 ⟨Nat.zero_le _, Nat.zero_le _⟩ ?_
    refine z_iconst (v := (1 : Int32)) X dX6_start_37 (by decide) ?_
    cases hF
    exact z_zret X hA hQ hr (Or.inr rfl)  rfl dX6_start_38 (Nat.le_refl _) (Nat.le_refl _)
  · have hF := hF.2 c10
    refine z_aload_n X dX6_start_20 rfl 0 rfl ?_
    refine z_sipush (v := (400 : Int32)) X dX6_start_21 (by decide) ?_
    obtain ⟨o5, eo5, hF⟩ := nx_e hF
    refine z_put (ws' := (w_X6_hasPlaceFor cA h_t a_t o5)) X k_X6_start_142 tyX6 tyX6_ok nmX6 rfl rfl 0 rfl (Nat.le_of_ble_eq_true rfl) (by rw [eo5]; rfl) dX6_start_24 ?_
    refine z_aload_n X dX6_start_27 rfl 0 rfl ?_
    refine z_iconst (v := (1 : Int32)) X dX6_start_28 (by decide) ?_
    obtain ⟨o6, r7, hc8, hF⟩ := zb2_e hF
    refine z_Vi (As := [.int (1 : Int32)]) (rest := []) (wc := (w_X6_hasPlaceFor cA h_t a_t o5)) (wc' := (w_X6_hasPlaceFor cA h_t a_t o6)) (ws' := (w_X6_hasPlaceFor cA h_t a_t o6)) (rv := r7) X (cwV 1 X.2.2.2.2.1 gX6_start_X6_fail rfl rfl rfl (by decide +kernel) (by rw [hR]; exact ⟨Nat.le_of_ble_eq_true rfl, Nat.le_of_ble_eq_true rfl⟩)) (fun sz => c_X6_fail l D cA g sz h_t a_t o5 (1 : Int32) o6 r7 hc8) [0, 1, 2, 3, 4] [1000, 1001, 1002, 1003, 1004] rfl (by decide) rfl (by decide) rfl rfl rfl rfl rfl rfl (Nat.le_of_ble_eq_true rfl) dX6_start_29 ⟨Nat.zero_le _, Nat.zero_le _⟩ ?_
    obtain ⟨g9, hF⟩ := gz_e hF
    cases hF
    exact z_zret X hA hQ hr g9  rfl dX6_start_32 (Nat.le_refl _) (Nat.le_refl _)
set_option maxRecDepth 20000 in
theorem h_X6_says_X6 : ∀ w ∈ wsX60, w ∈ wsX6_says := by decide +kernel
set_option maxRecDepth 20000 in
theorem k_X6_says_11 : ZF wsX6_says RX6 11 6 0 RX6 TX6 17 := ⟨rfl, by decide, h_X6_says_X6, by decide +kernel⟩
set_option maxRecDepth 20000 in
theorem k_X6_says_50 : ZF wsX6_says RX6 50 6 13 RX6 TX6 17 := ⟨rfl, by decide, h_X6_says_X6, by decide +kernel⟩
set_option maxRecDepth 20000 in
theorem k_X6_says_139 : ZF wsX6_says RX6 139 6 15 RX6 TX6 17 := ⟨rfl, by decide, h_X6_says_X6, by decide +kernel⟩
set_option maxRecDepth 20000 in
theorem k_X6_says_142 : ZF wsX6_says RX6 142 6 14 RX6 TX6 17 := ⟨rfl, by decide, h_X6_says_X6, by decide +kernel⟩
set_option maxHeartbeats 8000000 in
set_option maxRecDepth 100000 in
theorem c_X6_says__0 (l : Launch) (D : va_G) (cA : Nat → ClassId) (g : Nat → Nat) (sz : Nat) (h_t : Nat) (a_t : Nat → Nat) (o_t : Ob)  (rv : Int32) (hF : f_X6_says__0 o_t = some rv) : Met l yX6_says wsX6_says ({ frames := 4, cells := 0, slots := 0, locals := 85 }) (va_Pc [.ref h_t, .ref (g (1 + 0))] (PreW D cA g sz (w_X6_hasPlaceFor cA h_t a_t o_t))) (va_Qi (fun (r : Int32) (_ : Unit) => r = rv) (PostW D cA sz (w_X6_hasPlaceFor cA h_t a_t o_t) (w_X6_hasPlaceFor cA h_t a_t o_t)) (va_A (w_X6_hasPlaceFor cA h_t a_t o_t) sz)) 0 0 (va_A (w_X6_hasPlaceFor cA h_t a_t o_t) sz) := by
  refine z_start (cc := cX6_says) (maxL := 3) (ret := (some .boolean)) (lv0 := [(0, .ref h_t), (1, .ref (g (1 + 0)))]) (Qc := fun sz => va_Qi (fun (r : Int32) (_ : Unit) => r = rv) (PostW D cA sz (w_X6_hasPlaceFor cA h_t a_t o_t) (w_X6_hasPlaceFor cA h_t a_t o_t)) (va_A (w_X6_hasPlaceFor cA h_t a_t o_t) sz)) (free := fun sz => va_A (w_X6_hasPlaceFor cA h_t a_t o_t) sz) (by decide +kernel) rfl rfl (Nat.le_of_ble_eq_true rfl) ?_
  intro p e R s m args below meth c A Q hR hA hQ X hr hin
  unfold f_X6_says__0 at hF
  refine z_aload_n X dX6_says_0 rfl 0 rfl ?_
  refine z_get (v := .int (o_t 13 0)) X k_X6_says_50 0 rfl rfl dX6_says_1 ?_
  refine z_iconst (v := (2 : Int32)) X dX6_says_4 (by decide) ?_
  have hF := if_e hF
  refine z_icmp_ne (tgt := 24) X dX6_says_5 (by decide) (fun c19 => ?_) (fun c19 => ?_)
  · have hF := hF.2 c19
    refine z_iconst (v := (0 : Int32)) X dX6_says_24 (by decide) ?_
    cases hF
    exact z_zret X hA hQ hr (Or.inl rfl)  rfl dX6_says_25 (Nat.le_refl _) (Nat.le_refl _)
  · have hF := hF.1 c19
    refine z_aload_n X dX6_says_8 rfl 0 rfl ?_
    refine z_get (v := .int (o_t 15 0)) X k_X6_says_139 0 rfl rfl dX6_says_9 ?_
    refine z_aload_n X dX6_says_12 rfl 0 rfl ?_
    refine z_get (v := .int (o_t 14 0)) X k_X6_says_142 0 rfl rfl dX6_says_13 ?_
    refine z_isub X dX6_says_16 ?_
    refine z_aload_n X dX6_says_17 rfl 1 rfl ?_
    refine z_VS (As := []) (rest := [.int ((o_t 15 0) - (o_t 14 0))]) (rv := Int32.ofNat (sxL.getD 0 0)) X 0 (by decide) (cwV 0 X.2.2.2.2.1 gX6_says_J0_length_8abf5 rfl rfl rfl (by decide +kernel) (by rw [hR]; exact ⟨Nat.le_of_ble_eq_true rfl, Nat.le_of_ble_eq_true rfl⟩)) (fun sz => c_s_length l D cA g sz 0 (by decide)) rfl rfl (Nat.le_of_ble_eq_true rfl) dX6_says_18 ⟨Nat.zero_le _, Nat.zero_le _⟩ ?_
    have hF := if_e hF
    refine z_icmp_eq (tgt := 26) X dX6_says_21 (by decide) (fun c18 => ?_) (fun c18 => ?_)
    · have hF := hF.1 c18
      refine z_iconst (v := (0 : Int32)) X dX6_says_26 (by decide) ?_
      refine z_istore_n (lv' := [(2, .int (0 : Int32)), (0, .ref h_t), (1, .ref (g (1 + 0)))]) X dX6_says_27 rfl (by decide) rfl ?_
      obtain ⟨z16, hL, hFx, L9_r⟩ := ze0_e hF
      have L9_x : ∀ (_ : True), z16 = .inl () → ZW p l e R s m args below meth c D A 3 0 0 Q (w_X6_hasPlaceFor cA h_t a_t o_t) [] 63 [] := by
        intro _ hz
        have hF := hFx  hz
        refine z_iconst (v := (1 : Int32)) X dX6_says_63 (by decide) ?_
        cases hF
        exact z_zret X hA hQ hr (Or.inr rfl)  rfl dX6_says_64 (Nat.le_refl _) (Nat.le_refl _)
      obtain ⟨B17, hBB17, hL⟩ := zl1_b hL
      have L9 : ∀ (n : Nat) (k8 : Int32), zl1 B17 n k8 = some z16 → ZW p l e R s m args below meth c D A 3 0 0 Q (w_X6_hasPlaceFor cA h_t a_t o_t) [(0, .ref h_t), (1, .ref (g (1 + 0))), (2, .int k8)] 28 [] := by
        intro n
        induction n with
        | zero => intro k8 hL; cases hL
        | succ n ih =>
          intro k8 hL
          obtain ⟨zz10, hF, hL⟩ := zl1_e hL
          rw [hBB17] at hF
          refine z_iload_n X dX6_says_28 rfl 2 rfl ?_
          refine z_aload_n X dX6_says_29 rfl 1 rfl ?_
          refine z_VS (As := []) (rest := [.int k8]) (rv := Int32.ofNat (sxL.getD 0 0)) X 0 (by decide) (cwV 0 X.2.2.2.2.1 gX6_says_J0_length_8abf5 rfl rfl rfl (by decide +kernel) (by rw [hR]; exact ⟨Nat.le_of_ble_eq_true rfl, Nat.le_of_ble_eq_true rfl⟩)) (fun sz => c_s_length l D cA g sz 0 (by decide)) rfl rfl (Nat.le_of_ble_eq_true rfl) dX6_says_30 ⟨Nat.zero_le _, Nat.zero_le _⟩ ?_
          have hF := if_e hF
          refine z_icmp_ge (tgt := 63) X dX6_says_33 (by decide) (fun c15 => ?_) (fun c15 => ?_)
          · have hF := hF.1 c15
            cases hF
            have hL := Option.some.inj hL
            refine z_lv (lv' := []) [] rfl ?_
            exact L9_x trivial hL.symm
          · have hF := hF.2 c15
            refine z_aload_n X dX6_says_36 rfl 0 rfl ?_
            refine z_get (v := .ref (a_t 0)) X k_X6_says_11 0 rfl rfl dX6_says_37 ?_
            refine z_aload_n X dX6_says_40 rfl 0 rfl ?_
            refine z_get (v := .int (o_t 14 0)) X k_X6_says_142 0 rfl rfl dX6_says_41 ?_
            refine z_iload_n X dX6_says_44 rfl 2 rfl ?_
            refine z_iadd X dX6_says_45 ?_
            obtain ⟨g11, hF⟩ := gi_e hF
            refine z_iald X 1 rfl g11 dX6_says_46 ?_
            refine z_aload_n X dX6_says_47 rfl 1 rfl ?_
            refine z_iload_n X dX6_says_48 rfl 2 rfl ?_
            obtain ⟨g12, hF⟩ := gi_e hF
            refine z_VS (As := [.int k8]) (rest := [.int (o_t 0 (Int32.toNatClampNeg ((o_t 14 0) + k8)))]) (rv := (sxB.getD 0 []).getD (Int32.toNatClampNeg k8) 0) X 0 (by decide) (cwV 1 X.2.2.2.2.1 gX6_says_J0_charAt_5068e rfl rfl rfl (by decide +kernel) (by rw [hR]; exact ⟨Nat.le_of_ble_eq_true rfl, Nat.le_of_ble_eq_true rfl⟩)) (fun sz => c_s_charAt l D cA g sz 0 (by decide) k8 g12) rfl rfl (Nat.le_of_ble_eq_true rfl) dX6_says_49 ⟨Nat.zero_le _, Nat.zero_le _⟩ ?_
            have hF := if_e hF
            refine z_icmp_eq (tgt := 57) X dX6_says_52 (by decide) (fun c14 => ?_) (fun c14 => ?_)
            · have hF := hF.1 c14
              obtain ⟨x13, ex13, hF⟩ := nx_e hF
              refine z_iinc (v := x13) (lv' := [(2, .int x13), (0, .ref h_t), (1, .ref (g (1 + 0)))]) (j := 2) X dX6_says_57 rfl (by rw [ex13]; rfl) (by decide) rfl ?_
              refine z_goto (tgt := 28) X dX6_says_60 (by decide) ?_
              cases hF
              refine z_lv (lv' := [(0, .ref h_t), (1, .ref (g (1 + 0))), (2, .int x13)]) [1, 2, 0] rfl ?_
              exact ih x13 hL
            · have hF := hF.2 c14
              refine z_iconst (v := (0 : Int32)) X dX6_says_55 (by decide) ?_
              cases hF
              have hL := (Option.some.inj hL).symm
              have hF := L9_r _ hL
              cases hF
              exact z_zret X hA hQ hr (Or.inl rfl)  rfl dX6_says_56 (Nat.le_refl _) (Nat.le_refl _)
      refine z_lv (lv' := [(0, .ref h_t), (1, .ref (g (1 + 0))), (2, .int (0 : Int32))]) [1, 2, 0] rfl ?_
      exact L9 FU (0 : Int32) hL
    · have hF := hF.2 c18
      refine z_iconst (v := (0 : Int32)) X dX6_says_24 (by decide) ?_
      cases hF
      exact z_zret X hA hQ hr (Or.inl rfl)  rfl dX6_says_25 (Nat.le_refl _) (Nat.le_refl _)
set_option maxHeartbeats 8000000 in
set_option maxRecDepth 100000 in
theorem c_X6_says__1 (l : Launch) (D : va_G) (cA : Nat → ClassId) (g : Nat → Nat) (sz : Nat) (h_t : Nat) (a_t : Nat → Nat) (o_t : Ob)  (rv : Int32) (hF : f_X6_says__1 o_t = some rv) : Met l yX6_says wsX6_says ({ frames := 4, cells := 0, slots := 0, locals := 85 }) (va_Pc [.ref h_t, .ref (g (1 + 1))] (PreW D cA g sz (w_X6_hasPlaceFor cA h_t a_t o_t))) (va_Qi (fun (r : Int32) (_ : Unit) => r = rv) (PostW D cA sz (w_X6_hasPlaceFor cA h_t a_t o_t) (w_X6_hasPlaceFor cA h_t a_t o_t)) (va_A (w_X6_hasPlaceFor cA h_t a_t o_t) sz)) 0 0 (va_A (w_X6_hasPlaceFor cA h_t a_t o_t) sz) := by
  refine z_start (cc := cX6_says) (maxL := 3) (ret := (some .boolean)) (lv0 := [(0, .ref h_t), (1, .ref (g (1 + 1)))]) (Qc := fun sz => va_Qi (fun (r : Int32) (_ : Unit) => r = rv) (PostW D cA sz (w_X6_hasPlaceFor cA h_t a_t o_t) (w_X6_hasPlaceFor cA h_t a_t o_t)) (va_A (w_X6_hasPlaceFor cA h_t a_t o_t) sz)) (free := fun sz => va_A (w_X6_hasPlaceFor cA h_t a_t o_t) sz) (by decide +kernel) rfl rfl (Nat.le_of_ble_eq_true rfl) ?_
  intro p e R s m args below meth c A Q hR hA hQ X hr hin
  unfold f_X6_says__1 at hF
  refine z_aload_n X dX6_says_0 rfl 0 rfl ?_
  refine z_get (v := .int (o_t 13 0)) X k_X6_says_50 0 rfl rfl dX6_says_1 ?_
  refine z_iconst (v := (2 : Int32)) X dX6_says_4 (by decide) ?_
  have hF := if_e hF
  refine z_icmp_ne (tgt := 24) X dX6_says_5 (by decide) (fun c19 => ?_) (fun c19 => ?_)
  · have hF := hF.2 c19
    refine z_iconst (v := (0 : Int32)) X dX6_says_24 (by decide) ?_
    cases hF
    exact z_zret X hA hQ hr (Or.inl rfl)  rfl dX6_says_25 (Nat.le_refl _) (Nat.le_refl _)
  · have hF := hF.1 c19
    refine z_aload_n X dX6_says_8 rfl 0 rfl ?_
    refine z_get (v := .int (o_t 15 0)) X k_X6_says_139 0 rfl rfl dX6_says_9 ?_
    refine z_aload_n X dX6_says_12 rfl 0 rfl ?_
    refine z_get (v := .int (o_t 14 0)) X k_X6_says_142 0 rfl rfl dX6_says_13 ?_
    refine z_isub X dX6_says_16 ?_
    refine z_aload_n X dX6_says_17 rfl 1 rfl ?_
    refine z_VS (As := []) (rest := [.int ((o_t 15 0) - (o_t 14 0))]) (rv := Int32.ofNat (sxL.getD 1 0)) X 1 (by decide) (cwV 0 X.2.2.2.2.1 gX6_says_J0_length_8abf5 rfl rfl rfl (by decide +kernel) (by rw [hR]; exact ⟨Nat.le_of_ble_eq_true rfl, Nat.le_of_ble_eq_true rfl⟩)) (fun sz => c_s_length l D cA g sz 1 (by decide)) rfl rfl (Nat.le_of_ble_eq_true rfl) dX6_says_18 ⟨Nat.zero_le _, Nat.zero_le _⟩ ?_
    have hF := if_e hF
    refine z_icmp_eq (tgt := 26) X dX6_says_21 (by decide) (fun c18 => ?_) (fun c18 => ?_)
    · have hF := hF.1 c18
      refine z_iconst (v := (0 : Int32)) X dX6_says_26 (by decide) ?_
      refine z_istore_n (lv' := [(2, .int (0 : Int32)), (0, .ref h_t), (1, .ref (g (1 + 1)))]) X dX6_says_27 rfl (by decide) rfl ?_
      obtain ⟨z16, hL, hFx, L9_r⟩ := ze0_e hF
      have L9_x : ∀ (_ : True), z16 = .inl () → ZW p l e R s m args below meth c D A 3 0 0 Q (w_X6_hasPlaceFor cA h_t a_t o_t) [] 63 [] := by
        intro _ hz
        have hF := hFx  hz
        refine z_iconst (v := (1 : Int32)) X dX6_says_63 (by decide) ?_
        cases hF
        exact z_zret X hA hQ hr (Or.inr rfl)  rfl dX6_says_64 (Nat.le_refl _) (Nat.le_refl _)
      obtain ⟨B17, hBB17, hL⟩ := zl1_b hL
      have L9 : ∀ (n : Nat) (k8 : Int32), zl1 B17 n k8 = some z16 → ZW p l e R s m args below meth c D A 3 0 0 Q (w_X6_hasPlaceFor cA h_t a_t o_t) [(0, .ref h_t), (1, .ref (g (1 + 1))), (2, .int k8)] 28 [] := by
        intro n
        induction n with
        | zero => intro k8 hL; cases hL
        | succ n ih =>
          intro k8 hL
          obtain ⟨zz10, hF, hL⟩ := zl1_e hL
          rw [hBB17] at hF
          refine z_iload_n X dX6_says_28 rfl 2 rfl ?_
          refine z_aload_n X dX6_says_29 rfl 1 rfl ?_
          refine z_VS (As := []) (rest := [.int k8]) (rv := Int32.ofNat (sxL.getD 1 0)) X 1 (by decide) (cwV 0 X.2.2.2.2.1 gX6_says_J0_length_8abf5 rfl rfl rfl (by decide +kernel) (by rw [hR]; exact ⟨Nat.le_of_ble_eq_true rfl, Nat.le_of_ble_eq_true rfl⟩)) (fun sz => c_s_length l D cA g sz 1 (by decide)) rfl rfl (Nat.le_of_ble_eq_true rfl) dX6_says_30 ⟨Nat.zero_le _, Nat.zero_le _⟩ ?_
          have hF := if_e hF
          refine z_icmp_ge (tgt := 63) X dX6_says_33 (by decide) (fun c15 => ?_) (fun c15 => ?_)
          · have hF := hF.1 c15
            cases hF
            have hL := Option.some.inj hL
            refine z_lv (lv' := []) [] rfl ?_
            exact L9_x trivial hL.symm
          · have hF := hF.2 c15
            refine z_aload_n X dX6_says_36 rfl 0 rfl ?_
            refine z_get (v := .ref (a_t 0)) X k_X6_says_11 0 rfl rfl dX6_says_37 ?_
            refine z_aload_n X dX6_says_40 rfl 0 rfl ?_
            refine z_get (v := .int (o_t 14 0)) X k_X6_says_142 0 rfl rfl dX6_says_41 ?_
            refine z_iload_n X dX6_says_44 rfl 2 rfl ?_
            refine z_iadd X dX6_says_45 ?_
            obtain ⟨g11, hF⟩ := gi_e hF
            refine z_iald X 1 rfl g11 dX6_says_46 ?_
            refine z_aload_n X dX6_says_47 rfl 1 rfl ?_
            refine z_iload_n X dX6_says_48 rfl 2 rfl ?_
            obtain ⟨g12, hF⟩ := gi_e hF
            refine z_VS (As := [.int k8]) (rest := [.int (o_t 0 (Int32.toNatClampNeg ((o_t 14 0) + k8)))]) (rv := (sxB.getD 1 []).getD (Int32.toNatClampNeg k8) 0) X 1 (by decide) (cwV 1 X.2.2.2.2.1 gX6_says_J0_charAt_5068e rfl rfl rfl (by decide +kernel) (by rw [hR]; exact ⟨Nat.le_of_ble_eq_true rfl, Nat.le_of_ble_eq_true rfl⟩)) (fun sz => c_s_charAt l D cA g sz 1 (by decide) k8 g12) rfl rfl (Nat.le_of_ble_eq_true rfl) dX6_says_49 ⟨Nat.zero_le _, Nat.zero_le _⟩ ?_
            have hF := if_e hF
            refine z_icmp_eq (tgt := 57) X dX6_says_52 (by decide) (fun c14 => ?_) (fun c14 => ?_)
            · have hF := hF.1 c14
              obtain ⟨x13, ex13, hF⟩ := nx_e hF
              refine z_iinc (v := x13) (lv' := [(2, .int x13), (0, .ref h_t), (1, .ref (g (1 + 1)))]) (j := 2) X dX6_says_57 rfl (by rw [ex13]; rfl) (by decide) rfl ?_
              refine z_goto (tgt := 28) X dX6_says_60 (by decide) ?_
              cases hF
              refine z_lv (lv' := [(0, .ref h_t), (1, .ref (g (1 + 1))), (2, .int x13)]) [1, 2, 0] rfl ?_
              exact ih x13 hL
            · have hF := hF.2 c14
              refine z_iconst (v := (0 : Int32)) X dX6_says_55 (by decide) ?_
              cases hF
              have hL := (Option.some.inj hL).symm
              have hF := L9_r _ hL
              cases hF
              exact z_zret X hA hQ hr (Or.inl rfl)  rfl dX6_says_56 (Nat.le_refl _) (Nat.le_refl _)
      refine z_lv (lv' := [(0, .ref h_t), (1, .ref (g (1 + 1))), (2, .int (0 : Int32))]) [1, 2, 0] rfl ?_
      exact L9 FU (0 : Int32) hL
    · have hF := hF.2 c18
      refine z_iconst (v := (0 : Int32)) X dX6_says_24 (by decide) ?_
      cases hF
      exact z_zret X hA hQ hr (Or.inl rfl)  rfl dX6_says_25 (Nat.le_refl _) (Nat.le_refl _)
set_option maxHeartbeats 8000000 in
set_option maxRecDepth 100000 in
theorem c_X6_says__2 (l : Launch) (D : va_G) (cA : Nat → ClassId) (g : Nat → Nat) (sz : Nat) (h_t : Nat) (a_t : Nat → Nat) (o_t : Ob)  (rv : Int32) (hF : f_X6_says__2 o_t = some rv) : Met l yX6_says wsX6_says ({ frames := 4, cells := 0, slots := 0, locals := 85 }) (va_Pc [.ref h_t, .ref (g (1 + 2))] (PreW D cA g sz (w_X6_hasPlaceFor cA h_t a_t o_t))) (va_Qi (fun (r : Int32) (_ : Unit) => r = rv) (PostW D cA sz (w_X6_hasPlaceFor cA h_t a_t o_t) (w_X6_hasPlaceFor cA h_t a_t o_t)) (va_A (w_X6_hasPlaceFor cA h_t a_t o_t) sz)) 0 0 (va_A (w_X6_hasPlaceFor cA h_t a_t o_t) sz) := by
  refine z_start (cc := cX6_says) (maxL := 3) (ret := (some .boolean)) (lv0 := [(0, .ref h_t), (1, .ref (g (1 + 2)))]) (Qc := fun sz => va_Qi (fun (r : Int32) (_ : Unit) => r = rv) (PostW D cA sz (w_X6_hasPlaceFor cA h_t a_t o_t) (w_X6_hasPlaceFor cA h_t a_t o_t)) (va_A (w_X6_hasPlaceFor cA h_t a_t o_t) sz)) (free := fun sz => va_A (w_X6_hasPlaceFor cA h_t a_t o_t) sz) (by decide +kernel) rfl rfl (Nat.le_of_ble_eq_true rfl) ?_
  intro p e R s m args below meth c A Q hR hA hQ X hr hin
  unfold f_X6_says__2 at hF
  refine z_aload_n X dX6_says_0 rfl 0 rfl ?_
  refine z_get (v := .int (o_t 13 0)) X k_X6_says_50 0 rfl rfl dX6_says_1 ?_
  refine z_iconst (v := (2 : Int32)) X dX6_says_4 (by decide) ?_
  have hF := if_e hF
  refine z_icmp_ne (tgt := 24) X dX6_says_5 (by decide) (fun c19 => ?_) (fun c19 => ?_)
  · have hF := hF.2 c19
    refine z_iconst (v := (0 : Int32)) X dX6_says_24 (by decide) ?_
    cases hF
    exact z_zret X hA hQ hr (Or.inl rfl)  rfl dX6_says_25 (Nat.le_refl _) (Nat.le_refl _)
  · have hF := hF.1 c19
    refine z_aload_n X dX6_says_8 rfl 0 rfl ?_
    refine z_get (v := .int (o_t 15 0)) X k_X6_says_139 0 rfl rfl dX6_says_9 ?_
    refine z_aload_n X dX6_says_12 rfl 0 rfl ?_
    refine z_get (v := .int (o_t 14 0)) X k_X6_says_142 0 rfl rfl dX6_says_13 ?_
    refine z_isub X dX6_says_16 ?_
    refine z_aload_n X dX6_says_17 rfl 1 rfl ?_
    refine z_VS (As := []) (rest := [.int ((o_t 15 0) - (o_t 14 0))]) (rv := Int32.ofNat (sxL.getD 2 0)) X 2 (by decide) (cwV 0 X.2.2.2.2.1 gX6_says_J0_length_8abf5 rfl rfl rfl (by decide +kernel) (by rw [hR]; exact ⟨Nat.le_of_ble_eq_true rfl, Nat.le_of_ble_eq_true rfl⟩)) (fun sz => c_s_length l D cA g sz 2 (by decide)) rfl rfl (Nat.le_of_ble_eq_true rfl) dX6_says_18 ⟨Nat.zero_le _, Nat.zero_le _⟩ ?_
    have hF := if_e hF
    refine z_icmp_eq (tgt := 26) X dX6_says_21 (by decide) (fun c18 => ?_) (fun c18 => ?_)
    · have hF := hF.1 c18
      refine z_iconst (v := (0 : Int32)) X dX6_says_26 (by decide) ?_
      refine z_istore_n (lv' := [(2, .int (0 : Int32)), (0, .ref h_t), (1, .ref (g (1 + 2)))]) X dX6_says_27 rfl (by decide) rfl ?_
      obtain ⟨z16, hL, hFx, L9_r⟩ := ze0_e hF
      have L9_x : ∀ (_ : True), z16 = .inl () → ZW p l e R s m args below meth c D A 3 0 0 Q (w_X6_hasPlaceFor cA h_t a_t o_t) [] 63 [] := by
        intro _ hz
        have hF := hFx  hz
        refine z_iconst (v := (1 : Int32)) X dX6_says_63 (by decide) ?_
        cases hF
        exact z_zret X hA hQ hr (Or.inr rfl)  rfl dX6_says_64 (Nat.le_refl _) (Nat.le_refl _)
      obtain ⟨B17, hBB17, hL⟩ := zl1_b hL
      have L9 : ∀ (n : Nat) (k8 : Int32), zl1 B17 n k8 = some z16 → ZW p l e R s m args below meth c D A 3 0 0 Q (w_X6_hasPlaceFor cA h_t a_t o_t) [(0, .ref h_t), (1, .ref (g (1 + 2))), (2, .int k8)] 28 [] := by
        intro n
        induction n with
        | zero => intro k8 hL; cases hL
        | succ n ih =>
          intro k8 hL
          obtain ⟨zz10, hF, hL⟩ := zl1_e hL
          rw [hBB17] at hF
          refine z_iload_n X dX6_says_28 rfl 2 rfl ?_
          refine z_aload_n X dX6_says_29 rfl 1 rfl ?_
          refine z_VS (As := []) (rest := [.int k8]) (rv := Int32.ofNat (sxL.getD 2 0)) X 2 (by decide) (cwV 0 X.2.2.2.2.1 gX6_says_J0_length_8abf5 rfl rfl rfl (by decide +kernel) (by rw [hR]; exact ⟨Nat.le_of_ble_eq_true rfl, Nat.le_of_ble_eq_true rfl⟩)) (fun sz => c_s_length l D cA g sz 2 (by decide)) rfl rfl (Nat.le_of_ble_eq_true rfl) dX6_says_30 ⟨Nat.zero_le _, Nat.zero_le _⟩ ?_
          have hF := if_e hF
          refine z_icmp_ge (tgt := 63) X dX6_says_33 (by decide) (fun c15 => ?_) (fun c15 => ?_)
          · have hF := hF.1 c15
            cases hF
            have hL := Option.some.inj hL
            refine z_lv (lv' := []) [] rfl ?_
            exact L9_x trivial hL.symm
          · have hF := hF.2 c15
            refine z_aload_n X dX6_says_36 rfl 0 rfl ?_
            refine z_get (v := .ref (a_t 0)) X k_X6_says_11 0 rfl rfl dX6_says_37 ?_
            refine z_aload_n X dX6_says_40 rfl 0 rfl ?_
            refine z_get (v := .int (o_t 14 0)) X k_X6_says_142 0 rfl rfl dX6_says_41 ?_
            refine z_iload_n X dX6_says_44 rfl 2 rfl ?_
            refine z_iadd X dX6_says_45 ?_
            obtain ⟨g11, hF⟩ := gi_e hF
            refine z_iald X 1 rfl g11 dX6_says_46 ?_
            refine z_aload_n X dX6_says_47 rfl 1 rfl ?_
            refine z_iload_n X dX6_says_48 rfl 2 rfl ?_
            obtain ⟨g12, hF⟩ := gi_e hF
            refine z_VS (As := [.int k8]) (rest := [.int (o_t 0 (Int32.toNatClampNeg ((o_t 14 0) + k8)))]) (rv := (sxB.getD 2 []).getD (Int32.toNatClampNeg k8) 0) X 2 (by decide) (cwV 1 X.2.2.2.2.1 gX6_says_J0_charAt_5068e rfl rfl rfl (by decide +kernel) (by rw [hR]; exact ⟨Nat.le_of_ble_eq_true rfl, Nat.le_of_ble_eq_true rfl⟩)) (fun sz => c_s_charAt l D cA g sz 2 (by decide) k8 g12) rfl rfl (Nat.le_of_ble_eq_true rfl) dX6_says_49 ⟨Nat.zero_le _, Nat.zero_le _⟩ ?_
            have hF := if_e hF
            refine z_icmp_eq (tgt := 57) X dX6_says_52 (by decide) (fun c14 => ?_) (fun c14 => ?_)
            · have hF := hF.1 c14
              obtain ⟨x13, ex13, hF⟩ := nx_e hF
              refine z_iinc (v := x13) (lv' := [(2, .int x13), (0, .ref h_t), (1, .ref (g (1 + 2)))]) (j := 2) X dX6_says_57 rfl (by rw [ex13]; rfl) (by decide) rfl ?_
              refine z_goto (tgt := 28) X dX6_says_60 (by decide) ?_
              cases hF
              refine z_lv (lv' := [(0, .ref h_t), (1, .ref (g (1 + 2))), (2, .int x13)]) [1, 2, 0] rfl ?_
              exact ih x13 hL
            · have hF := hF.2 c14
              refine z_iconst (v := (0 : Int32)) X dX6_says_55 (by decide) ?_
              cases hF
              have hL := (Option.some.inj hL).symm
              have hF := L9_r _ hL
              cases hF
              exact z_zret X hA hQ hr (Or.inl rfl)  rfl dX6_says_56 (Nat.le_refl _) (Nat.le_refl _)
      refine z_lv (lv' := [(0, .ref h_t), (1, .ref (g (1 + 2))), (2, .int (0 : Int32))]) [1, 2, 0] rfl ?_
      exact L9 FU (0 : Int32) hL
    · have hF := hF.2 c18
      refine z_iconst (v := (0 : Int32)) X dX6_says_24 (by decide) ?_
      cases hF
      exact z_zret X hA hQ hr (Or.inl rfl)  rfl dX6_says_25 (Nat.le_refl _) (Nat.le_refl _)
set_option maxHeartbeats 8000000 in
set_option maxRecDepth 100000 in
theorem c_X6_says__3 (l : Launch) (D : va_G) (cA : Nat → ClassId) (g : Nat → Nat) (sz : Nat) (h_t : Nat) (a_t : Nat → Nat) (o_t : Ob)  (rv : Int32) (hF : f_X6_says__3 o_t = some rv) : Met l yX6_says wsX6_says ({ frames := 4, cells := 0, slots := 0, locals := 85 }) (va_Pc [.ref h_t, .ref (g (1 + 3))] (PreW D cA g sz (w_X6_hasPlaceFor cA h_t a_t o_t))) (va_Qi (fun (r : Int32) (_ : Unit) => r = rv) (PostW D cA sz (w_X6_hasPlaceFor cA h_t a_t o_t) (w_X6_hasPlaceFor cA h_t a_t o_t)) (va_A (w_X6_hasPlaceFor cA h_t a_t o_t) sz)) 0 0 (va_A (w_X6_hasPlaceFor cA h_t a_t o_t) sz) := by
  refine z_start (cc := cX6_says) (maxL := 3) (ret := (some .boolean)) (lv0 := [(0, .ref h_t), (1, .ref (g (1 + 3)))]) (Qc := fun sz => va_Qi (fun (r : Int32) (_ : Unit) => r = rv) (PostW D cA sz (w_X6_hasPlaceFor cA h_t a_t o_t) (w_X6_hasPlaceFor cA h_t a_t o_t)) (va_A (w_X6_hasPlaceFor cA h_t a_t o_t) sz)) (free := fun sz => va_A (w_X6_hasPlaceFor cA h_t a_t o_t) sz) (by decide +kernel) rfl rfl (Nat.le_of_ble_eq_true rfl) ?_
  intro p e R s m args below meth c A Q hR hA hQ X hr hin
  unfold f_X6_says__3 at hF
  refine z_aload_n X dX6_says_0 rfl 0 rfl ?_
  refine z_get (v := .int (o_t 13 0)) X k_X6_says_50 0 rfl rfl dX6_says_1 ?_
  refine z_iconst (v := (2 : Int32)) X dX6_says_4 (by decide) ?_
  have hF := if_e hF
  refine z_icmp_ne (tgt := 24) X dX6_says_5 (by decide) (fun c19 => ?_) (fun c19 => ?_)
  · have hF := hF.2 c19
    refine z_iconst (v := (0 : Int32)) X dX6_says_24 (by decide) ?_
    cases hF
    exact z_zret X hA hQ hr (Or.inl rfl)  rfl dX6_says_25 (Nat.le_refl _) (Nat.le_refl _)
  · have hF := hF.1 c19
    refine z_aload_n X dX6_says_8 rfl 0 rfl ?_
    refine z_get (v := .int (o_t 15 0)) X k_X6_says_139 0 rfl rfl dX6_says_9 ?_
    refine z_aload_n X dX6_says_12 rfl 0 rfl ?_
    refine z_get (v := .int (o_t 14 0)) X k_X6_says_142 0 rfl rfl dX6_says_13 ?_
    refine z_isub X dX6_says_16 ?_
    refine z_aload_n X dX6_says_17 rfl 1 rfl ?_
    refine z_VS (As := []) (rest := [.int ((o_t 15 0) - (o_t 14 0))]) (rv := Int32.ofNat (sxL.getD 3 0)) X 3 (by decide) (cwV 0 X.2.2.2.2.1 gX6_says_J0_length_8abf5 rfl rfl rfl (by decide +kernel) (by rw [hR]; exact ⟨Nat.le_of_ble_eq_true rfl, Nat.le_of_ble_eq_true rfl⟩)) (fun sz => c_s_length l D cA g sz 3 (by decide)) rfl rfl (Nat.le_of_ble_eq_true rfl) dX6_says_18 ⟨Nat.zero_le _, Nat.zero_le _⟩ ?_
    have hF := if_e hF
    refine z_icmp_eq (tgt := 26) X dX6_says_21 (by decide) (fun c18 => ?_) (fun c18 => ?_)
    · have hF := hF.1 c18
      refine z_iconst (v := (0 : Int32)) X dX6_says_26 (by decide) ?_
      refine z_istore_n (lv' := [(2, .int (0 : Int32)), (0, .ref h_t), (1, .ref (g (1 + 3)))]) X dX6_says_27 rfl (by decide) rfl ?_
      obtain ⟨z16, hL, hFx, L9_r⟩ := ze0_e hF
      have L9_x : ∀ (_ : True), z16 = .inl () → ZW p l e R s m args below meth c D A 3 0 0 Q (w_X6_hasPlaceFor cA h_t a_t o_t) [] 63 [] := by
        intro _ hz
        have hF := hFx  hz
        refine z_iconst (v := (1 : Int32)) X dX6_says_63 (by decide) ?_
        cases hF
        exact z_zret X hA hQ hr (Or.inr rfl)  rfl dX6_says_64 (Nat.le_refl _) (Nat.le_refl _)
      obtain ⟨B17, hBB17, hL⟩ := zl1_b hL
      have L9 : ∀ (n : Nat) (k8 : Int32), zl1 B17 n k8 = some z16 → ZW p l e R s m args below meth c D A 3 0 0 Q (w_X6_hasPlaceFor cA h_t a_t o_t) [(0, .ref h_t), (1, .ref (g (1 + 3))), (2, .int k8)] 28 [] := by
        intro n
        induction n with
        | zero => intro k8 hL; cases hL
        | succ n ih =>
          intro k8 hL
          obtain ⟨zz10, hF, hL⟩ := zl1_e hL
          rw [hBB17] at hF
          refine z_iload_n X dX6_says_28 rfl 2 rfl ?_
          refine z_aload_n X dX6_says_29 rfl 1 rfl ?_
          refine z_VS (As := []) (rest := [.int k8]) (rv := Int32.ofNat (sxL.getD 3 0)) X 3 (by decide) (cwV 0 X.2.2.2.2.1 gX6_says_J0_length_8abf5 rfl rfl rfl (by decide +kernel) (by rw [hR]; exact ⟨Nat.le_of_ble_eq_true rfl, Nat.le_of_ble_eq_true rfl⟩)) (fun sz => c_s_length l D cA g sz 3 (by decide)) rfl rfl (Nat.le_of_ble_eq_true rfl) dX6_says_30 ⟨Nat.zero_le _, Nat.zero_le _⟩ ?_
          have hF := if_e hF
          refine z_icmp_ge (tgt := 63) X dX6_says_33 (by decide) (fun c15 => ?_) (fun c15 => ?_)
          · have hF := hF.1 c15
            cases hF
            have hL := Option.some.inj hL
            refine z_lv (lv' := []) [] rfl ?_
            exact L9_x trivial hL.symm
          · have hF := hF.2 c15
            refine z_aload_n X dX6_says_36 rfl 0 rfl ?_
            refine z_get (v := .ref (a_t 0)) X k_X6_says_11 0 rfl rfl dX6_says_37 ?_
            refine z_aload_n X dX6_says_40 rfl 0 rfl ?_
            refine z_get (v := .int (o_t 14 0)) X k_X6_says_142 0 rfl rfl dX6_says_41 ?_
            refine z_iload_n X dX6_says_44 rfl 2 rfl ?_
            refine z_iadd X dX6_says_45 ?_
            obtain ⟨g11, hF⟩ := gi_e hF
            refine z_iald X 1 rfl g11 dX6_says_46 ?_
            refine z_aload_n X dX6_says_47 rfl 1 rfl ?_
            refine z_iload_n X dX6_says_48 rfl 2 rfl ?_
            obtain ⟨g12, hF⟩ := gi_e hF
            refine z_VS (As := [.int k8]) (rest := [.int (o_t 0 (Int32.toNatClampNeg ((o_t 14 0) + k8)))]) (rv := (sxB.getD 3 []).getD (Int32.toNatClampNeg k8) 0) X 3 (by decide) (cwV 1 X.2.2.2.2.1 gX6_says_J0_charAt_5068e rfl rfl rfl (by decide +kernel) (by rw [hR]; exact ⟨Nat.le_of_ble_eq_true rfl, Nat.le_of_ble_eq_true rfl⟩)) (fun sz => c_s_charAt l D cA g sz 3 (by decide) k8 g12) rfl rfl (Nat.le_of_ble_eq_true rfl) dX6_says_49 ⟨Nat.zero_le _, Nat.zero_le _⟩ ?_
            have hF := if_e hF
            refine z_icmp_eq (tgt := 57) X dX6_says_52 (by decide) (fun c14 => ?_) (fun c14 => ?_)
            · have hF := hF.1 c14
              obtain ⟨x13, ex13, hF⟩ := nx_e hF
              refine z_iinc (v := x13) (lv' := [(2, .int x13), (0, .ref h_t), (1, .ref (g (1 + 3)))]) (j := 2) X dX6_says_57 rfl (by rw [ex13]; rfl) (by decide) rfl ?_
              refine z_goto (tgt := 28) X dX6_says_60 (by decide) ?_
              cases hF
              refine z_lv (lv' := [(0, .ref h_t), (1, .ref (g (1 + 3))), (2, .int x13)]) [1, 2, 0] rfl ?_
              exact ih x13 hL
            · have hF := hF.2 c14
              refine z_iconst (v := (0 : Int32)) X dX6_says_55 (by decide) ?_
              cases hF
              have hL := (Option.some.inj hL).symm
              have hF := L9_r _ hL
              cases hF
              exact z_zret X hA hQ hr (Or.inl rfl)  rfl dX6_says_56 (Nat.le_refl _) (Nat.le_refl _)
      refine z_lv (lv' := [(0, .ref h_t), (1, .ref (g (1 + 3))), (2, .int (0 : Int32))]) [1, 2, 0] rfl ?_
      exact L9 FU (0 : Int32) hL
    · have hF := hF.2 c18
      refine z_iconst (v := (0 : Int32)) X dX6_says_24 (by decide) ?_
      cases hF
      exact z_zret X hA hQ hr (Or.inl rfl)  rfl dX6_says_25 (Nat.le_refl _) (Nat.le_refl _)
set_option maxHeartbeats 8000000 in
set_option maxRecDepth 100000 in
theorem c_X6_says__4 (l : Launch) (D : va_G) (cA : Nat → ClassId) (g : Nat → Nat) (sz : Nat) (h_t : Nat) (a_t : Nat → Nat) (o_t : Ob)  (rv : Int32) (hF : f_X6_says__4 o_t = some rv) : Met l yX6_says wsX6_says ({ frames := 4, cells := 0, slots := 0, locals := 85 }) (va_Pc [.ref h_t, .ref (g (1 + 4))] (PreW D cA g sz (w_X6_hasPlaceFor cA h_t a_t o_t))) (va_Qi (fun (r : Int32) (_ : Unit) => r = rv) (PostW D cA sz (w_X6_hasPlaceFor cA h_t a_t o_t) (w_X6_hasPlaceFor cA h_t a_t o_t)) (va_A (w_X6_hasPlaceFor cA h_t a_t o_t) sz)) 0 0 (va_A (w_X6_hasPlaceFor cA h_t a_t o_t) sz) := by
  refine z_start (cc := cX6_says) (maxL := 3) (ret := (some .boolean)) (lv0 := [(0, .ref h_t), (1, .ref (g (1 + 4)))]) (Qc := fun sz => va_Qi (fun (r : Int32) (_ : Unit) => r = rv) (PostW D cA sz (w_X6_hasPlaceFor cA h_t a_t o_t) (w_X6_hasPlaceFor cA h_t a_t o_t)) (va_A (w_X6_hasPlaceFor cA h_t a_t o_t) sz)) (free := fun sz => va_A (w_X6_hasPlaceFor cA h_t a_t o_t) sz) (by decide +kernel) rfl rfl (Nat.le_of_ble_eq_true rfl) ?_
  intro p e R s m args below meth c A Q hR hA hQ X hr hin
  unfold f_X6_says__4 at hF
  refine z_aload_n X dX6_says_0 rfl 0 rfl ?_
  refine z_get (v := .int (o_t 13 0)) X k_X6_says_50 0 rfl rfl dX6_says_1 ?_
  refine z_iconst (v := (2 : Int32)) X dX6_says_4 (by decide) ?_
  have hF := if_e hF
  refine z_icmp_ne (tgt := 24) X dX6_says_5 (by decide) (fun c19 => ?_) (fun c19 => ?_)
  · have hF := hF.2 c19
    refine z_iconst (v := (0 : Int32)) X dX6_says_24 (by decide) ?_
    cases hF
    exact z_zret X hA hQ hr (Or.inl rfl)  rfl dX6_says_25 (Nat.le_refl _) (Nat.le_refl _)
  · have hF := hF.1 c19
    refine z_aload_n X dX6_says_8 rfl 0 rfl ?_
    refine z_get (v := .int (o_t 15 0)) X k_X6_says_139 0 rfl rfl dX6_says_9 ?_
    refine z_aload_n X dX6_says_12 rfl 0 rfl ?_
    refine z_get (v := .int (o_t 14 0)) X k_X6_says_142 0 rfl rfl dX6_says_13 ?_
    refine z_isub X dX6_says_16 ?_
    refine z_aload_n X dX6_says_17 rfl 1 rfl ?_
    refine z_VS (As := []) (rest := [.int ((o_t 15 0) - (o_t 14 0))]) (rv := Int32.ofNat (sxL.getD 4 0)) X 4 (by decide) (cwV 0 X.2.2.2.2.1 gX6_says_J0_length_8abf5 rfl rfl rfl (by decide +kernel) (by rw [hR]; exact ⟨Nat.le_of_ble_eq_true rfl, Nat.le_of_ble_eq_true rfl⟩)) (fun sz => c_s_length l D cA g sz 4 (by decide)) rfl rfl (Nat.le_of_ble_eq_true rfl) dX6_says_18 ⟨Nat.zero_le _, Nat.zero_le _⟩ ?_
    have hF := if_e hF
    refine z_icmp_eq (tgt := 26) X dX6_says_21 (by decide) (fun c18 => ?_) (fun c18 => ?_)
    · have hF := hF.1 c18
      refine z_iconst (v := (0 : Int32)) X dX6_says_26 (by decide) ?_
      refine z_istore_n (lv' := [(2, .int (0 : Int32)), (0, .ref h_t), (1, .ref (g (1 + 4)))]) X dX6_says_27 rfl (by decide) rfl ?_
      obtain ⟨z16, hL, hFx, L9_r⟩ := ze0_e hF
      have L9_x : ∀ (_ : True), z16 = .inl () → ZW p l e R s m args below meth c D A 3 0 0 Q (w_X6_hasPlaceFor cA h_t a_t o_t) [] 63 [] := by
        intro _ hz
        have hF := hFx  hz
        refine z_iconst (v := (1 : Int32)) X dX6_says_63 (by decide) ?_
        cases hF
        exact z_zret X hA hQ hr (Or.inr rfl)  rfl dX6_says_64 (Nat.le_refl _) (Nat.le_refl _)
      obtain ⟨B17, hBB17, hL⟩ := zl1_b hL
      have L9 : ∀ (n : Nat) (k8 : Int32), zl1 B17 n k8 = some z16 → ZW p l e R s m args below meth c D A 3 0 0 Q (w_X6_hasPlaceFor cA h_t a_t o_t) [(0, .ref h_t), (1, .ref (g (1 + 4))), (2, .int k8)] 28 [] := by
        intro n
        induction n with
        | zero => intro k8 hL; cases hL
        | succ n ih =>
          intro k8 hL
          obtain ⟨zz10, hF, hL⟩ := zl1_e hL
          rw [hBB17] at hF
          refine z_iload_n X dX6_says_28 rfl 2 rfl ?_
          refine z_aload_n X dX6_says_29 rfl 1 rfl ?_
          refine z_VS (As := []) (rest := [.int k8]) (rv := Int32.ofNat (sxL.getD 4 0)) X 4 (by decide) (cwV 0 X.2.2.2.2.1 gX6_says_J0_length_8abf5 rfl rfl rfl (by decide +kernel) (by rw [hR]; exact ⟨Nat.le_of_ble_eq_true rfl, Nat.le_of_ble_eq_true rfl⟩)) (fun sz => c_s_length l D cA g sz 4 (by decide)) rfl rfl (Nat.le_of_ble_eq_true rfl) dX6_says_30 ⟨Nat.zero_le _, Nat.zero_le _⟩ ?_
          have hF := if_e hF
          refine z_icmp_ge (tgt := 63) X dX6_says_33 (by decide) (fun c15 => ?_) (fun c15 => ?_)
          · have hF := hF.1 c15
            cases hF
            have hL := Option.some.inj hL
            refine z_lv (lv' := []) [] rfl ?_
            exact L9_x trivial hL.symm
          · have hF := hF.2 c15
            refine z_aload_n X dX6_says_36 rfl 0 rfl ?_
            refine z_get (v := .ref (a_t 0)) X k_X6_says_11 0 rfl rfl dX6_says_37 ?_
            refine z_aload_n X dX6_says_40 rfl 0 rfl ?_
            refine z_get (v := .int (o_t 14 0)) X k_X6_says_142 0 rfl rfl dX6_says_41 ?_
            refine z_iload_n X dX6_says_44 rfl 2 rfl ?_
            refine z_iadd X dX6_says_45 ?_
            obtain ⟨g11, hF⟩ := gi_e hF
            refine z_iald X 1 rfl g11 dX6_says_46 ?_
            refine z_aload_n X dX6_says_47 rfl 1 rfl ?_
            refine z_iload_n X dX6_says_48 rfl 2 rfl ?_
            obtain ⟨g12, hF⟩ := gi_e hF
            refine z_VS (As := [.int k8]) (rest := [.int (o_t 0 (Int32.toNatClampNeg ((o_t 14 0) + k8)))]) (rv := (sxB.getD 4 []).getD (Int32.toNatClampNeg k8) 0) X 4 (by decide) (cwV 1 X.2.2.2.2.1 gX6_says_J0_charAt_5068e rfl rfl rfl (by decide +kernel) (by rw [hR]; exact ⟨Nat.le_of_ble_eq_true rfl, Nat.le_of_ble_eq_true rfl⟩)) (fun sz => c_s_charAt l D cA g sz 4 (by decide) k8 g12) rfl rfl (Nat.le_of_ble_eq_true rfl) dX6_says_49 ⟨Nat.zero_le _, Nat.zero_le _⟩ ?_
            have hF := if_e hF
            refine z_icmp_eq (tgt := 57) X dX6_says_52 (by decide) (fun c14 => ?_) (fun c14 => ?_)
            · have hF := hF.1 c14
              obtain ⟨x13, ex13, hF⟩ := nx_e hF
              refine z_iinc (v := x13) (lv' := [(2, .int x13), (0, .ref h_t), (1, .ref (g (1 + 4)))]) (j := 2) X dX6_says_57 rfl (by rw [ex13]; rfl) (by decide) rfl ?_
              refine z_goto (tgt := 28) X dX6_says_60 (by decide) ?_
              cases hF
              refine z_lv (lv' := [(0, .ref h_t), (1, .ref (g (1 + 4))), (2, .int x13)]) [1, 2, 0] rfl ?_
              exact ih x13 hL
            · have hF := hF.2 c14
              refine z_iconst (v := (0 : Int32)) X dX6_says_55 (by decide) ?_
              cases hF
              have hL := (Option.some.inj hL).symm
              have hF := L9_r _ hL
              cases hF
              exact z_zret X hA hQ hr (Or.inl rfl)  rfl dX6_says_56 (Nat.le_refl _) (Nat.le_refl _)
      refine z_lv (lv' := [(0, .ref h_t), (1, .ref (g (1 + 4))), (2, .int (0 : Int32))]) [1, 2, 0] rfl ?_
      exact L9 FU (0 : Int32) hL
    · have hF := hF.2 c18
      refine z_iconst (v := (0 : Int32)) X dX6_says_24 (by decide) ?_
      cases hF
      exact z_zret X hA hQ hr (Or.inl rfl)  rfl dX6_says_25 (Nat.le_refl _) (Nat.le_refl _)
set_option maxHeartbeats 8000000 in
set_option maxRecDepth 100000 in
theorem c_X6_says__5 (l : Launch) (D : va_G) (cA : Nat → ClassId) (g : Nat → Nat) (sz : Nat) (h_t : Nat) (a_t : Nat → Nat) (o_t : Ob)  (rv : Int32) (hF : f_X6_says__5 o_t = some rv) : Met l yX6_says wsX6_says ({ frames := 4, cells := 0, slots := 0, locals := 85 }) (va_Pc [.ref h_t, .ref (g (1 + 5))] (PreW D cA g sz (w_X6_hasPlaceFor cA h_t a_t o_t))) (va_Qi (fun (r : Int32) (_ : Unit) => r = rv) (PostW D cA sz (w_X6_hasPlaceFor cA h_t a_t o_t) (w_X6_hasPlaceFor cA h_t a_t o_t)) (va_A (w_X6_hasPlaceFor cA h_t a_t o_t) sz)) 0 0 (va_A (w_X6_hasPlaceFor cA h_t a_t o_t) sz) := by
  refine z_start (cc := cX6_says) (maxL := 3) (ret := (some .boolean)) (lv0 := [(0, .ref h_t), (1, .ref (g (1 + 5)))]) (Qc := fun sz => va_Qi (fun (r : Int32) (_ : Unit) => r = rv) (PostW D cA sz (w_X6_hasPlaceFor cA h_t a_t o_t) (w_X6_hasPlaceFor cA h_t a_t o_t)) (va_A (w_X6_hasPlaceFor cA h_t a_t o_t) sz)) (free := fun sz => va_A (w_X6_hasPlaceFor cA h_t a_t o_t) sz) (by decide +kernel) rfl rfl (Nat.le_of_ble_eq_true rfl) ?_
  intro p e R s m args below meth c A Q hR hA hQ X hr hin
  unfold f_X6_says__5 at hF
  refine z_aload_n X dX6_says_0 rfl 0 rfl ?_
  refine z_get (v := .int (o_t 13 0)) X k_X6_says_50 0 rfl rfl dX6_says_1 ?_
  refine z_iconst (v := (2 : Int32)) X dX6_says_4 (by decide) ?_
  have hF := if_e hF
  refine z_icmp_ne (tgt := 24) X dX6_says_5 (by decide) (fun c19 => ?_) (fun c19 => ?_)
  · have hF := hF.2 c19
    refine z_iconst (v := (0 : Int32)) X dX6_says_24 (by decide) ?_
    cases hF
    exact z_zret X hA hQ hr (Or.inl rfl)  rfl dX6_says_25 (Nat.le_refl _) (Nat.le_refl _)
  · have hF := hF.1 c19
    refine z_aload_n X dX6_says_8 rfl 0 rfl ?_
    refine z_get (v := .int (o_t 15 0)) X k_X6_says_139 0 rfl rfl dX6_says_9 ?_
    refine z_aload_n X dX6_says_12 rfl 0 rfl ?_
    refine z_get (v := .int (o_t 14 0)) X k_X6_says_142 0 rfl rfl dX6_says_13 ?_
    refine z_isub X dX6_says_16 ?_
    refine z_aload_n X dX6_says_17 rfl 1 rfl ?_
    refine z_VS (As := []) (rest := [.int ((o_t 15 0) - (o_t 14 0))]) (rv := Int32.ofNat (sxL.getD 5 0)) X 5 (by decide) (cwV 0 X.2.2.2.2.1 gX6_says_J0_length_8abf5 rfl rfl rfl (by decide +kernel) (by rw [hR]; exact ⟨Nat.le_of_ble_eq_true rfl, Nat.le_of_ble_eq_true rfl⟩)) (fun sz => c_s_length l D cA g sz 5 (by decide)) rfl rfl (Nat.le_of_ble_eq_true rfl) dX6_says_18 ⟨Nat.zero_le _, Nat.zero_le _⟩ ?_
    have hF := if_e hF
    refine z_icmp_eq (tgt := 26) X dX6_says_21 (by decide) (fun c18 => ?_) (fun c18 => ?_)
    · have hF := hF.1 c18
      refine z_iconst (v := (0 : Int32)) X dX6_says_26 (by decide) ?_
      refine z_istore_n (lv' := [(2, .int (0 : Int32)), (0, .ref h_t), (1, .ref (g (1 + 5)))]) X dX6_says_27 rfl (by decide) rfl ?_
      obtain ⟨z16, hL, hFx, L9_r⟩ := ze0_e hF
      have L9_x : ∀ (_ : True), z16 = .inl () → ZW p l e R s m args below meth c D A 3 0 0 Q (w_X6_hasPlaceFor cA h_t a_t o_t) [] 63 [] := by
        intro _ hz
        have hF := hFx  hz
        refine z_iconst (v := (1 : Int32)) X dX6_says_63 (by decide) ?_
        cases hF
        exact z_zret X hA hQ hr (Or.inr rfl)  rfl dX6_says_64 (Nat.le_refl _) (Nat.le_refl _)
      obtain ⟨B17, hBB17, hL⟩ := zl1_b hL
      have L9 : ∀ (n : Nat) (k8 : Int32), zl1 B17 n k8 = some z16 → ZW p l e R s m args below meth c D A 3 0 0 Q (w_X6_hasPlaceFor cA h_t a_t o_t) [(0, .ref h_t), (1, .ref (g (1 + 5))), (2, .int k8)] 28 [] := by
        intro n
        induction n with
        | zero => intro k8 hL; cases hL
        | succ n ih =>
          intro k8 hL
          obtain ⟨zz10, hF, hL⟩ := zl1_e hL
          rw [hBB17] at hF
          refine z_iload_n X dX6_says_28 rfl 2 rfl ?_
          refine z_aload_n X dX6_says_29 rfl 1 rfl ?_
          refine z_VS (As := []) (rest := [.int k8]) (rv := Int32.ofNat (sxL.getD 5 0)) X 5 (by decide) (cwV 0 X.2.2.2.2.1 gX6_says_J0_length_8abf5 rfl rfl rfl (by decide +kernel) (by rw [hR]; exact ⟨Nat.le_of_ble_eq_true rfl, Nat.le_of_ble_eq_true rfl⟩)) (fun sz => c_s_length l D cA g sz 5 (by decide)) rfl rfl (Nat.le_of_ble_eq_true rfl) dX6_says_30 ⟨Nat.zero_le _, Nat.zero_le _⟩ ?_
          have hF := if_e hF
          refine z_icmp_ge (tgt := 63) X dX6_says_33 (by decide) (fun c15 => ?_) (fun c15 => ?_)
          · have hF := hF.1 c15
            cases hF
            have hL := Option.some.inj hL
            refine z_lv (lv' := []) [] rfl ?_
            exact L9_x trivial hL.symm
          · have hF := hF.2 c15
            refine z_aload_n X dX6_says_36 rfl 0 rfl ?_
            refine z_get (v := .ref (a_t 0)) X k_X6_says_11 0 rfl rfl dX6_says_37 ?_
            refine z_aload_n X dX6_says_40 rfl 0 rfl ?_
            refine z_get (v := .int (o_t 14 0)) X k_X6_says_142 0 rfl rfl dX6_says_41 ?_
            refine z_iload_n X dX6_says_44 rfl 2 rfl ?_
            refine z_iadd X dX6_says_45 ?_
            obtain ⟨g11, hF⟩ := gi_e hF
            refine z_iald X 1 rfl g11 dX6_says_46 ?_
            refine z_aload_n X dX6_says_47 rfl 1 rfl ?_
            refine z_iload_n X dX6_says_48 rfl 2 rfl ?_
            obtain ⟨g12, hF⟩ := gi_e hF
            refine z_VS (As := [.int k8]) (rest := [.int (o_t 0 (Int32.toNatClampNeg ((o_t 14 0) + k8)))]) (rv := (sxB.getD 5 []).getD (Int32.toNatClampNeg k8) 0) X 5 (by decide) (cwV 1 X.2.2.2.2.1 gX6_says_J0_charAt_5068e rfl rfl rfl (by decide +kernel) (by rw [hR]; exact ⟨Nat.le_of_ble_eq_true rfl, Nat.le_of_ble_eq_true rfl⟩)) (fun sz => c_s_charAt l D cA g sz 5 (by decide) k8 g12) rfl rfl (Nat.le_of_ble_eq_true rfl) dX6_says_49 ⟨Nat.zero_le _, Nat.zero_le _⟩ ?_
            have hF := if_e hF
            refine z_icmp_eq (tgt := 57) X dX6_says_52 (by decide) (fun c14 => ?_) (fun c14 => ?_)
            · have hF := hF.1 c14
              obtain ⟨x13, ex13, hF⟩ := nx_e hF
              refine z_iinc (v := x13) (lv' := [(2, .int x13), (0, .ref h_t), (1, .ref (g (1 + 5)))]) (j := 2) X dX6_says_57 rfl (by rw [ex13]; rfl) (by decide) rfl ?_
              refine z_goto (tgt := 28) X dX6_says_60 (by decide) ?_
              cases hF
              refine z_lv (lv' := [(0, .ref h_t), (1, .ref (g (1 + 5))), (2, .int x13)]) [1, 2, 0] rfl ?_
              exact ih x13 hL
            · have hF := hF.2 c14
              refine z_iconst (v := (0 : Int32)) X dX6_says_55 (by decide) ?_
              cases hF
              have hL := (Option.some.inj hL).symm
              have hF := L9_r _ hL
              cases hF
              exact z_zret X hA hQ hr (Or.inl rfl)  rfl dX6_says_56 (Nat.le_refl _) (Nat.le_refl _)
      refine z_lv (lv' := [(0, .ref h_t), (1, .ref (g (1 + 5))), (2, .int (0 : Int32))]) [1, 2, 0] rfl ?_
      exact L9 FU (0 : Int32) hL
    · have hF := hF.2 c18
      refine z_iconst (v := (0 : Int32)) X dX6_says_24 (by decide) ?_
      cases hF
      exact z_zret X hA hQ hr (Or.inl rfl)  rfl dX6_says_25 (Nat.le_refl _) (Nat.le_refl _)
set_option maxHeartbeats 8000000 in
set_option maxRecDepth 100000 in
theorem c_X6_says__6 (l : Launch) (D : va_G) (cA : Nat → ClassId) (g : Nat → Nat) (sz : Nat) (h_t : Nat) (a_t : Nat → Nat) (o_t : Ob)  (rv : Int32) (hF : f_X6_says__6 o_t = some rv) : Met l yX6_says wsX6_says ({ frames := 4, cells := 0, slots := 0, locals := 85 }) (va_Pc [.ref h_t, .ref (g (1 + 6))] (PreW D cA g sz (w_X6_hasPlaceFor cA h_t a_t o_t))) (va_Qi (fun (r : Int32) (_ : Unit) => r = rv) (PostW D cA sz (w_X6_hasPlaceFor cA h_t a_t o_t) (w_X6_hasPlaceFor cA h_t a_t o_t)) (va_A (w_X6_hasPlaceFor cA h_t a_t o_t) sz)) 0 0 (va_A (w_X6_hasPlaceFor cA h_t a_t o_t) sz) := by
  refine z_start (cc := cX6_says) (maxL := 3) (ret := (some .boolean)) (lv0 := [(0, .ref h_t), (1, .ref (g (1 + 6)))]) (Qc := fun sz => va_Qi (fun (r : Int32) (_ : Unit) => r = rv) (PostW D cA sz (w_X6_hasPlaceFor cA h_t a_t o_t) (w_X6_hasPlaceFor cA h_t a_t o_t)) (va_A (w_X6_hasPlaceFor cA h_t a_t o_t) sz)) (free := fun sz => va_A (w_X6_hasPlaceFor cA h_t a_t o_t) sz) (by decide +kernel) rfl rfl (Nat.le_of_ble_eq_true rfl) ?_
  intro p e R s m args below meth c A Q hR hA hQ X hr hin
  unfold f_X6_says__6 at hF
  refine z_aload_n X dX6_says_0 rfl 0 rfl ?_
  refine z_get (v := .int (o_t 13 0)) X k_X6_says_50 0 rfl rfl dX6_says_1 ?_
  refine z_iconst (v := (2 : Int32)) X dX6_says_4 (by decide) ?_
  have hF := if_e hF
  refine z_icmp_ne (tgt := 24) X dX6_says_5 (by decide) (fun c19 => ?_) (fun c19 => ?_)
  · have hF := hF.2 c19
    refine z_iconst (v := (0 : Int32)) X dX6_says_24 (by decide) ?_
    cases hF
    exact z_zret X hA hQ hr (Or.inl rfl)  rfl dX6_says_25 (Nat.le_refl _) (Nat.le_refl _)
  · have hF := hF.1 c19
    refine z_aload_n X dX6_says_8 rfl 0 rfl ?_
    refine z_get (v := .int (o_t 15 0)) X k_X6_says_139 0 rfl rfl dX6_says_9 ?_
    refine z_aload_n X dX6_says_12 rfl 0 rfl ?_
    refine z_get (v := .int (o_t 14 0)) X k_X6_says_142 0 rfl rfl dX6_says_13 ?_
    refine z_isub X dX6_says_16 ?_
    refine z_aload_n X dX6_says_17 rfl 1 rfl ?_
    refine z_VS (As := []) (rest := [.int ((o_t 15 0) - (o_t 14 0))]) (rv := Int32.ofNat (sxL.getD 6 0)) X 6 (by decide) (cwV 0 X.2.2.2.2.1 gX6_says_J0_length_8abf5 rfl rfl rfl (by decide +kernel) (by rw [hR]; exact ⟨Nat.le_of_ble_eq_true rfl, Nat.le_of_ble_eq_true rfl⟩)) (fun sz => c_s_length l D cA g sz 6 (by decide)) rfl rfl (Nat.le_of_ble_eq_true rfl) dX6_says_18 ⟨Nat.zero_le _, Nat.zero_le _⟩ ?_
    have hF := if_e hF
    refine z_icmp_eq (tgt := 26) X dX6_says_21 (by decide) (fun c18 => ?_) (fun c18 => ?_)
    · have hF := hF.1 c18
      refine z_iconst (v := (0 : Int32)) X dX6_says_26 (by decide) ?_
      refine z_istore_n (lv' := [(2, .int (0 : Int32)), (0, .ref h_t), (1, .ref (g (1 + 6)))]) X dX6_says_27 rfl (by decide) rfl ?_
      obtain ⟨z16, hL, hFx, L9_r⟩ := ze0_e hF
      have L9_x : ∀ (_ : True), z16 = .inl () → ZW p l e R s m args below meth c D A 3 0 0 Q (w_X6_hasPlaceFor cA h_t a_t o_t) [] 63 [] := by
        intro _ hz
        have hF := hFx  hz
        refine z_iconst (v := (1 : Int32)) X dX6_says_63 (by decide) ?_
        cases hF
        exact z_zret X hA hQ hr (Or.inr rfl)  rfl dX6_says_64 (Nat.le_refl _) (Nat.le_refl _)
      obtain ⟨B17, hBB17, hL⟩ := zl1_b hL
      have L9 : ∀ (n : Nat) (k8 : Int32), zl1 B17 n k8 = some z16 → ZW p l e R s m args below meth c D A 3 0 0 Q (w_X6_hasPlaceFor cA h_t a_t o_t) [(0, .ref h_t), (1, .ref (g (1 + 6))), (2, .int k8)] 28 [] := by
        intro n
        induction n with
        | zero => intro k8 hL; cases hL
        | succ n ih =>
          intro k8 hL
          obtain ⟨zz10, hF, hL⟩ := zl1_e hL
          rw [hBB17] at hF
          refine z_iload_n X dX6_says_28 rfl 2 rfl ?_
          refine z_aload_n X dX6_says_29 rfl 1 rfl ?_
          refine z_VS (As := []) (rest := [.int k8]) (rv := Int32.ofNat (sxL.getD 6 0)) X 6 (by decide) (cwV 0 X.2.2.2.2.1 gX6_says_J0_length_8abf5 rfl rfl rfl (by decide +kernel) (by rw [hR]; exact ⟨Nat.le_of_ble_eq_true rfl, Nat.le_of_ble_eq_true rfl⟩)) (fun sz => c_s_length l D cA g sz 6 (by decide)) rfl rfl (Nat.le_of_ble_eq_true rfl) dX6_says_30 ⟨Nat.zero_le _, Nat.zero_le _⟩ ?_
          have hF := if_e hF
          refine z_icmp_ge (tgt := 63) X dX6_says_33 (by decide) (fun c15 => ?_) (fun c15 => ?_)
          · have hF := hF.1 c15
            cases hF
            have hL := Option.some.inj hL
            refine z_lv (lv' := []) [] rfl ?_
            exact L9_x trivial hL.symm
          · have hF := hF.2 c15
            refine z_aload_n X dX6_says_36 rfl 0 rfl ?_
            refine z_get (v := .ref (a_t 0)) X k_X6_says_11 0 rfl rfl dX6_says_37 ?_
            refine z_aload_n X dX6_says_40 rfl 0 rfl ?_
            refine z_get (v := .int (o_t 14 0)) X k_X6_says_142 0 rfl rfl dX6_says_41 ?_
            refine z_iload_n X dX6_says_44 rfl 2 rfl ?_
            refine z_iadd X dX6_says_45 ?_
            obtain ⟨g11, hF⟩ := gi_e hF
            refine z_iald X 1 rfl g11 dX6_says_46 ?_
            refine z_aload_n X dX6_says_47 rfl 1 rfl ?_
            refine z_iload_n X dX6_says_48 rfl 2 rfl ?_
            obtain ⟨g12, hF⟩ := gi_e hF
            refine z_VS (As := [.int k8]) (rest := [.int (o_t 0 (Int32.toNatClampNeg ((o_t 14 0) + k8)))]) (rv := (sxB.getD 6 []).getD (Int32.toNatClampNeg k8) 0) X 6 (by decide) (cwV 1 X.2.2.2.2.1 gX6_says_J0_charAt_5068e rfl rfl rfl (by decide +kernel) (by rw [hR]; exact ⟨Nat.le_of_ble_eq_true rfl, Nat.le_of_ble_eq_true rfl⟩)) (fun sz => c_s_charAt l D cA g sz 6 (by decide) k8 g12) rfl rfl (Nat.le_of_ble_eq_true rfl) dX6_says_49 ⟨Nat.zero_le _, Nat.zero_le _⟩ ?_
            have hF := if_e hF
            refine z_icmp_eq (tgt := 57) X dX6_says_52 (by decide) (fun c14 => ?_) (fun c14 => ?_)
            · have hF := hF.1 c14
              obtain ⟨x13, ex13, hF⟩ := nx_e hF
              refine z_iinc (v := x13) (lv' := [(2, .int x13), (0, .ref h_t), (1, .ref (g (1 + 6)))]) (j := 2) X dX6_says_57 rfl (by rw [ex13]; rfl) (by decide) rfl ?_
              refine z_goto (tgt := 28) X dX6_says_60 (by decide) ?_
              cases hF
              refine z_lv (lv' := [(0, .ref h_t), (1, .ref (g (1 + 6))), (2, .int x13)]) [1, 2, 0] rfl ?_
              exact ih x13 hL
            · have hF := hF.2 c14
              refine z_iconst (v := (0 : Int32)) X dX6_says_55 (by decide) ?_
              cases hF
              have hL := (Option.some.inj hL).symm
              have hF := L9_r _ hL
              cases hF
              exact z_zret X hA hQ hr (Or.inl rfl)  rfl dX6_says_56 (Nat.le_refl _) (Nat.le_refl _)
      refine z_lv (lv' := [(0, .ref h_t), (1, .ref (g (1 + 6))), (2, .int (0 : Int32))]) [1, 2, 0] rfl ?_
      exact L9 FU (0 : Int32) hL
    · have hF := hF.2 c18
      refine z_iconst (v := (0 : Int32)) X dX6_says_24 (by decide) ?_
      cases hF
      exact z_zret X hA hQ hr (Or.inl rfl)  rfl dX6_says_25 (Nat.le_refl _) (Nat.le_refl _)
set_option maxRecDepth 20000 in
theorem h_X6_takeNumber_X6 : ∀ w ∈ wsX60, w ∈ wsX6_takeNumber := by decide +kernel
set_option maxRecDepth 20000 in
theorem k_X6_takeNumber_50 : ZF wsX6_takeNumber RX6 50 6 13 RX6 TX6 17 := ⟨rfl, by decide, h_X6_takeNumber_X6, by decide +kernel⟩
set_option maxRecDepth 20000 in
theorem k_X6_takeNumber_97 : ZF wsX6_takeNumber RX6 97 6 16 RX6 TX6 17 := ⟨rfl, by decide, h_X6_takeNumber_X6, by decide +kernel⟩
set_option maxHeartbeats 8000000 in
set_option maxRecDepth 100000 in
theorem c_X6_takeNumber (l : Launch) (D : va_G) (cA : Nat → ClassId) (g : Nat → Nat) (sz : Nat) (h_t : Nat) (a_t : Nat → Nat) (o_t : Ob) (v1 : Int32) (v2 : Int32) (o_t' : Ob) (rv : Int32) (hF : f_X6_takeNumber o_t v1 v2 = some (o_t', rv)) : Met l yX6_takeNumber wsX6_takeNumber ({ frames := 2, cells := 0, slots := 0, locals := 43 }) (va_Pc [.ref h_t, .int v1, .int v2] (PreW D cA g sz (w_X6_hasPlaceFor cA h_t a_t o_t))) (va_Qi (fun (r : Int32) (_ : Unit) => r = rv) (PostW D cA sz (w_X6_hasPlaceFor cA h_t a_t o_t) (w_X6_hasPlaceFor cA h_t a_t o_t')) (va_A (w_X6_hasPlaceFor cA h_t a_t o_t) sz)) 0 0 (va_A (w_X6_hasPlaceFor cA h_t a_t o_t) sz) := by
  refine z_start (cc := cX6_takeNumber) (maxL := 5) (ret := (some .int)) (lv0 := [(0, .ref h_t), (1, .int v1), (2, .int v2)]) (Qc := fun sz => va_Qi (fun (r : Int32) (_ : Unit) => r = rv) (PostW D cA sz (w_X6_hasPlaceFor cA h_t a_t o_t) (w_X6_hasPlaceFor cA h_t a_t o_t')) (va_A (w_X6_hasPlaceFor cA h_t a_t o_t) sz)) (free := fun sz => va_A (w_X6_hasPlaceFor cA h_t a_t o_t) sz) (by decide +kernel) rfl rfl (Nat.le_of_ble_eq_true rfl) ?_
  intro p e R s m args below meth c A Q hR hA hQ X hr hin
  unfold f_X6_takeNumber at hF
  refine z_aload_n X dX6_takeNumber_0 rfl 0 rfl ?_
  refine z_get (v := .int (o_t 16 0)) X k_X6_takeNumber_97 0 rfl rfl dX6_takeNumber_1 ?_
  refine z_iload_n X dX6_takeNumber_4 rfl 1 rfl ?_
  obtain ⟨K7, eK7, hF⟩ := nx_e hF
  have K7_l : ∀ (j6 : Int32), K7 j6 = some (o_t', rv) → ZW p l e R s m args below meth c D A 5 0 0 Q (w_X6_hasPlaceFor cA h_t a_t o_t) [(0, .ref h_t)] 21 [.int j6] := by
    intro j6 hF
    rw [eK7] at hF
    refine z_istore_n (lv' := [(3, .int j6), (0, .ref h_t)]) X dX6_takeNumber_21 rfl (by decide) rfl ?_
    refine z_aload_n X dX6_takeNumber_22 rfl 1 rfl ?_
    refine z_get (v := .int (o_t 13 0)) X k_X6_takeNumber_50 0 rfl rfl dX6_takeNumber_23 ?_
    refine z_iconst (v := (3 : Int32)) X dX6_takeNumber_26 (by decide) ?_
    obtain ⟨K13, eK13, hF⟩ := nx_e hF
    have K13_l : ∀ (_ : Unit), K13 () = some (o_t', rv) → ZW p l e R s m args below meth c D A 5 0 0 Q (w_X6_hasPlaceFor cA h_t a_t o_t) [(0, .ref h_t)] 34 [] := by
      intro _ hF
      rw [eK13] at hF
      refine z_aload_n X dX6_takeNumber_34 rfl 0 rfl ?_
      refine z_aload_n X dX6_takeNumber_35 rfl 0 rfl ?_
      refine z_get (v := .int (o_t 13 0)) X k_X6_takeNumber_50 0 rfl rfl dX6_takeNumber_36 ?_
      refine z_iconst (v := (3 : Int32)) X dX6_takeNumber_39 (by decide) ?_
      obtain ⟨K16, eK16, hF⟩ := nx_e hF
      have K16_l : ∀ (j15 : Int32), K16 j15 = some (o_t', rv) → ZW p l e R s m args below meth c D A 5 0 0 Q (w_X6_hasPlaceFor cA h_t a_t o_t) [] 48 [.int j15, .ref h_t] := by
        intro j15 hF
        rw [eK16] at hF
        obtain ⟨o17, r18, hc19, hF⟩ := zb2_e hF
        refine z_Vi (As := [.int j15]) (rest := []) (wc := (w_X6_hasPlaceFor cA h_t a_t o_t)) (wc' := (w_X6_hasPlaceFor cA h_t a_t o17)) (ws' := (w_X6_hasPlaceFor cA h_t a_t o17)) (rv := r18) X (cwV 1 X.2.2.2.2.1 gX6_takeNumber_X6_fail rfl rfl rfl (by decide +kernel) (by rw [hR]; exact ⟨Nat.le_of_ble_eq_true rfl, Nat.le_of_ble_eq_true rfl⟩)) (fun sz => c_X6_fail l D cA g sz h_t a_t o_t j15 o17 r18 hc19) [0, 1, 2, 3, 4] [1000, 1001, 1002, 1003, 1004] rfl (by decide) rfl (by decide) rfl rfl rfl rfl rfl rfl (Nat.le_of_ble_eq_true rfl) dX6_takeNumber_48 ⟨Nat.zero_le _, Nat.zero_le _⟩ ?_
        refine z_pop X dX6_takeNumber_51 rfl ?_
        refine z_iconst (v := (-1 : Int32)) X dX6_takeNumber_52 (by decide) ?_
        cases hF
        exact z_iret X hA hQ hr rfl dX6_takeNumber_53 (Nat.le_refl _) (Nat.le_refl _)
      have hF := if_e hF
      refine z_icmp_ne (tgt := 47) X dX6_takeNumber_40 (by decide) (fun c20 => ?_) (fun c20 => ?_)
      · have hF := hF.2 c20
        refine z_iconst (v := (1 : Int32)) X dX6_takeNumber_47 (by decide) ?_
        refine z_lv (lv' := []) [] rfl ?_
        exact K16_l (1 : Int32) hF
      · have hF := hF.1 c20
        refine z_iconst (v := (2 : Int32)) X dX6_takeNumber_43 (by decide) ?_
        refine z_goto (tgt := 48) X dX6_takeNumber_44 (by decide) ?_
        refine z_lv (lv' := []) [] rfl ?_
        exact K16_l (2 : Int32) hF
    have hF := if_e hF
    refine z_icmp_ne (tgt := 34) X dX6_takeNumber_27 (by decide) (fun c25 => ?_) (fun c25 => ?_)
    · have hF := hF.2 c25
      refine z_lv (lv' := [(0, .ref h_t)]) [1] rfl ?_
      exact K13_l () hF
    · have hF := hF.1 c25
      refine z_iload_n X dX6_takeNumber_30 rfl 0 rfl ?_
      have hF := if_e hF
      refine z_if_ne (tgt := 54) X dX6_takeNumber_31 (by decide) (fun c24 => ?_) (fun c24 => ?_)
      · have hF := hF.2 c24
        refine z_aload_n X dX6_takeNumber_54 rfl 1 rfl ?_
        refine z_get (v := .int (o_t 16 0)) X k_X6_takeNumber_97 0 rfl rfl dX6_takeNumber_55 ?_
        obtain ⟨x21, ex21, hF⟩ := nx_e hF
        refine z_nm ex21 ?_
        refine z_istore (lv' := [(4, .int x21), (3, .int j6), (0, .ref h_t)]) X dX6_takeNumber_58 (by decide) rfl ?_
        refine z_aload_n X dX6_takeNumber_60 rfl 2 rfl ?_
        obtain ⟨o22, hc23, hF⟩ := zb1_e hF
        refine z_Vv (As := []) (rest := []) (wc := (w_X6_hasPlaceFor cA h_t a_t o_t)) (wc' := (w_X6_hasPlaceFor cA h_t a_t o22)) (ws' := (w_X6_hasPlaceFor cA h_t a_t o22)) X (cwV 0 X.2.2.2.2.1 gX6_takeNumber_X6_advance rfl rfl rfl (by decide +kernel) (by rw [hR]; exact ⟨Nat.le_of_ble_eq_true rfl, Nat.le_of_ble_eq_true rfl⟩)) (fun sz => c_X6_advance l D cA g sz h_t a_t o_t o22 hc23) [0, 1, 2, 3, 4] [1000, 1001, 1002, 1003, 1004] rfl (by decide) rfl (by decide) rfl rfl rfl rfl rfl rfl (Nat.le_of_ble_eq_true rfl) dX6_takeNumber_61 ⟨Nat.zero_le _, Nat.zero_le _⟩ ?_
        refine z_iload X dX6_takeNumber_64 0 rfl ?_
        cases hF
        exact z_iret X hA hQ hr rfl dX6_takeNumber_66 (Nat.le_refl _) (Nat.le_refl _)
      · have hF := hF.1 c24
        refine z_lv (lv' := [(0, .ref h_t)]) [1] rfl ?_
        exact K13_l () hF
  obtain ⟨K3, eK3, hF⟩ := nx_e hF
  have K3_l : ∀ (_ : Unit), K3 () = some (o_t', rv) → ZW p l e R s m args below meth c D A 5 0 0 Q (w_X6_hasPlaceFor cA h_t a_t o_t) [(0, .ref h_t)] 20 [] := by
    intro _ hF
    rw [eK3] at hF
    refine z_iconst (v := (0 : Int32)) X dX6_takeNumber_20 (by decide) ?_
    refine z_lv (lv' := [(0, .ref h_t)]) [0] rfl ?_
    exact K7_l (0 : Int32) hF
  have hF := if_e hF
  refine z_icmp_lt (tgt := 20) X dX6_takeNumber_5 (by decide) (fun c27 => ?_) (fun c27 => ?_)
  · have hF := hF.1 c27
    refine z_lv (lv' := [(0, .ref h_t)]) [0] rfl ?_
    exact K3_l () hF
  · have hF := hF.2 c27
    refine z_aload_n X dX6_takeNumber_8 rfl 0 rfl ?_
    refine z_get (v := .int (o_t 16 0)) X k_X6_takeNumber_97 0 rfl rfl dX6_takeNumber_9 ?_
    refine z_iload_n X dX6_takeNumber_12 rfl 2 rfl ?_
    have hF := if_e hF
    refine z_icmp_gt (tgt := 20) X dX6_takeNumber_13 (by decide) (fun c26 => ?_) (fun c26 => ?_)
    · have hF := hF.1 c26
      refine z_lv (lv' := [(0, .ref h_t)]) [0] rfl ?_
      exact K3_l () hF
    · have hF := hF.2 c26
      refine z_iconst (v := (1 : Int32)) X dX6_takeNumber_16 (by decide) ?_
      refine z_goto (tgt := 21) X dX6_takeNumber_17 (by decide) ?_
      refine z_lv (lv' := [(0, .ref h_t)]) [0] rfl ?_
      exact K7_l (1 : Int32) hF
set_option maxRecDepth 20000 in
theorem h_X6_readRoom_X6 : ∀ w ∈ wsX60, w ∈ wsX6_readRoom := by decide +kernel
set_option maxRecDepth 20000 in
theorem k_X6_readRoom_33 : ZF wsX6_readRoom RX6 33 6 4 RX6 TX6 17 := ⟨rfl, by decide, h_X6_readRoom_X6, by decide +kernel⟩
set_option maxRecDepth 20000 in
theorem k_X6_readRoom_39 : ZF wsX6_readRoom RX6 39 6 6 RX6 TX6 17 := ⟨rfl, by decide, h_X6_readRoom_X6, by decide +kernel⟩
set_option maxHeartbeats 8000000 in
set_option maxRecDepth 100000 in
theorem c_X6_readRoom (l : Launch) (D : va_G) (cA : Nat → ClassId) (g : Nat → Nat) (sz : Nat) (h_t : Nat) (a_t : Nat → Nat) (o_t : Ob)  (o_t' : Ob) (rv : Int32) (hF : f_X6_readRoom o_t = some (o_t', rv)) : Met l yX6_readRoom wsX6_readRoom ({ frames := 3, cells := 0, slots := 0, locals := 67 }) (va_Pc [.ref h_t] (PreW D cA g sz (w_X6_hasPlaceFor cA h_t a_t o_t))) (va_Qi (fun (r : Int32) (_ : Unit) => r = rv) (PostW D cA sz (w_X6_hasPlaceFor cA h_t a_t o_t) (w_X6_hasPlaceFor cA h_t a_t o_t')) (va_A (w_X6_hasPlaceFor cA h_t a_t o_t) sz)) 0 0 (va_A (w_X6_hasPlaceFor cA h_t a_t o_t) sz) := by
  refine z_start (cc := cX6_readRoom) (maxL := 1) (ret := (some .boolean)) (lv0 := [(0, .ref h_t)]) (Qc := fun sz => va_Qi (fun (r : Int32) (_ : Unit) => r = rv) (PostW D cA sz (w_X6_hasPlaceFor cA h_t a_t o_t) (w_X6_hasPlaceFor cA h_t a_t o_t')) (va_A (w_X6_hasPlaceFor cA h_t a_t o_t) sz)) (free := fun sz => va_A (w_X6_hasPlaceFor cA h_t a_t o_t) sz) (by decide +kernel) rfl rfl (Nat.le_of_ble_eq_true rfl) ?_
  intro p e R s m args below meth c A Q hR hA hQ X hr hin
  unfold f_X6_readRoom at hF
  refine z_aload_n X dX6_readRoom_0 rfl 0 rfl ?_
  refine z_get (v := .int (o_t 6 0)) X k_X6_readRoom_39 0 rfl rfl dX6_readRoom_1 ?_
  have hF := if_e hF
  refine z_if_eq (tgt := 13) X dX6_readRoom_4 (by decide) (fun c13 => ?_) (fun c13 => ?_)
  · have hF := hF.1 c13
    refine z_aload_n X dX6_readRoom_13 rfl 0 rfl ?_
    refine z_iconst (v := (1 : Int32)) X dX6_readRoom_14 (by decide) ?_
    obtain ⟨o1, eo1, hF⟩ := nx_e hF
    refine z_putZ (ws' := (w_X6_hasPlaceFor cA h_t a_t o1)) X k_X6_readRoom_39 tyX6 tyX6_ok nmX6 rfl rfl 0 rfl (Nat.le_of_ble_eq_true rfl) (by rw [eo1]; rfl) (Or.inr rfl) dX6_readRoom_15 ?_
    refine z_aload_n X dX6_readRoom_18 rfl 0 rfl ?_
    obtain ⟨o2, hc3, hF⟩ := zb1_e hF
    refine z_Vv (As := []) (rest := []) (wc := (w_X6_hasPlaceFor cA h_t a_t o1)) (wc' := (w_X6_hasPlaceFor cA h_t a_t o2)) (ws' := (w_X6_hasPlaceFor cA h_t a_t o2)) X (cwV 0 X.2.2.2.2.1 gX6_readRoom_X6_advance rfl rfl rfl (by decide +kernel) (by rw [hR]; exact ⟨Nat.le_of_ble_eq_true rfl, Nat.le_of_ble_eq_true rfl⟩)) (fun sz => c_X6_advance l D cA g sz h_t a_t o1 o2 hc3) [0, 1, 2, 3, 4] [1000, 1001, 1002, 1003, 1004] rfl (by decide) rfl (by decide) rfl rfl rfl rfl rfl rfl (Nat.le_of_ble_eq_true rfl) dX6_readRoom_19 ⟨Nat.zero_le _, Nat.zero_le _⟩ ?_
    refine z_aload_n X dX6_readRoom_22 rfl 0 rfl ?_
    refine z_aload_n X dX6_readRoom_23 rfl 0 rfl ?_
    refine z_iconst (v := (1 : Int32)) X dX6_readRoom_24 (by decide) ?_
    refine z_bipush (v := (20 : Int32)) X dX6_readRoom_25 (by decide) ?_
    obtain ⟨o4, r5, hc6, hF⟩ := zb2_e hF
    refine z_Vi (As := [.int (1 : Int32), .int (20 : Int32)]) (rest := [.ref h_t]) (wc := (w_X6_hasPlaceFor cA h_t a_t o2)) (wc' := (w_X6_hasPlaceFor cA h_t a_t o4)) (ws' := (w_X6_hasPlaceFor cA h_t a_t o4)) (rv := r5) X (cwV 2 X.2.2.2.2.1 gX6_readRoom_X6_takeNumber rfl rfl rfl (by decide +kernel) (by rw [hR]; exact ⟨Nat.le_of_ble_eq_true rfl, Nat.le_of_ble_eq_true rfl⟩)) (fun sz => c_X6_takeNumber l D cA g sz h_t a_t o2 (1 : Int32) (20 : Int32) o4 r5 hc6) [0, 1, 2, 3, 4] [1000, 1001, 1002, 1003, 1004] rfl (by decide) rfl (by decide) rfl rfl rfl rfl rfl rfl (Nat.le_of_ble_eq_true rfl) dX6_readRoom_27 ⟨Nat.zero_le _, Nat.zero_le _⟩ ?_
    obtain ⟨o7, eo7, hF⟩ := nx_e hF
    refine z_put (ws' := (w_X6_hasPlaceFor cA h_t a_t o7)) X k_X6_readRoom_33 tyX6 tyX6_ok nmX6 rfl rfl 0 rfl (Nat.le_of_ble_eq_true rfl) (by rw [eo7]; rfl) dX6_readRoom_30 ?_
    refine z_aload_n X dX6_readRoom_33 rfl 0 rfl ?_
    refine z_get (v := .int (o7 4 0)) X k_X6_readRoom_33 0 rfl rfl dX6_readRoom_34 ?_
    refine z_iconst (v := (-1 : Int32)) X dX6_readRoom_37 (by decide) ?_
    have hF := if_e hF
    refine z_icmp_eq (tgt := 45) X dX6_readRoom_38 (by decide) (fun c8 => ?_) (fun c8 => ?_)
    · have hF := hF.1 c8
      refine z_iconst (v := (0 : Int32)) X dX6_readRoom_45 (by decide) ?_
      cases hF
      exact z_zret X hA hQ hr (Or.inl rfl)  rfl dX6_readRoom_46 (Nat.le_refl _) (Nat.le_refl _)
    · have hF := hF.2 c8
      refine z_iconst (v := (1 : Int32)) X dX6_readRoom_41 (by decide) ?_
      refine z_goto (tgt := 46) X dX6_readRoom_42 (by decide) ?_
      cases hF
      exact z_zret X hA hQ hr (Or.inr rfl)  rfl dX6_readRoom_46 (Nat.le_refl _) (Nat.le_refl _)
  · have hF := hF.2 c13
    refine z_aload_n X dX6_readRoom_7 rfl 0 rfl ?_
    refine z_iconst (v := (3 : Int32)) X dX6_readRoom_8 (by decide) ?_
    obtain ⟨o9, r10, hc11, hF⟩ := zb2_e hF
    refine z_Vi (As := [.int (3 : Int32)]) (rest := []) (wc := (w_X6_hasPlaceFor cA h_t a_t o_t)) (wc' := (w_X6_hasPlaceFor cA h_t a_t o9)) (ws' := (w_X6_hasPlaceFor cA h_t a_t o9)) (rv := r10) X (cwV 1 X.2.2.2.2.1 gX6_readRoom_X6_fail rfl rfl rfl (by decide +kernel) (by rw [hR]; exact ⟨Nat.le_of_ble_eq_true rfl, Nat.le_of_ble_eq_true rfl⟩)) (fun sz => c_X6_fail l D cA g sz h_t a_t o_t (3 : Int32) o9 r10 hc11) [0, 1, 2, 3, 4] [1000, 1001, 1002, 1003, 1004] rfl (by decide) rfl (by decide) rfl rfl rfl rfl rfl rfl (Nat.le_of_ble_eq_true rfl) dX6_readRoom_9 ⟨Nat.zero_le _, Nat.zero_le _⟩ ?_
    obtain ⟨g12, hF⟩ := gz_e hF
    cases hF
    exact z_zret X hA hQ hr g12  rfl dX6_readRoom_12 (Nat.le_refl _) (Nat.le_refl _)
set_option maxRecDepth 20000 in
theorem h_X6_readRule_X6 : ∀ w ∈ wsX60, w ∈ wsX6_readRule := by decide +kernel
set_option maxRecDepth 20000 in
theorem k_X6_readRule_36 : ZF wsX6_readRule RX6 36 6 5 RX6 TX6 17 := ⟨rfl, by decide, h_X6_readRule_X6, by decide +kernel⟩
set_option maxRecDepth 20000 in
theorem k_X6_readRule_43 : ZF wsX6_readRule RX6 43 6 7 RX6 TX6 17 := ⟨rfl, by decide, h_X6_readRule_X6, by decide +kernel⟩
set_option maxHeartbeats 8000000 in
set_option maxRecDepth 100000 in
theorem c_X6_readRule (l : Launch) (D : va_G) (cA : Nat → ClassId) (g : Nat → Nat) (sz : Nat) (h_t : Nat) (a_t : Nat → Nat) (o_t : Ob)  (o_t' : Ob) (rv : Int32) (hF : f_X6_readRule o_t = some (o_t', rv)) : Met l yX6_readRule wsX6_readRule ({ frames := 5, cells := 0, slots := 0, locals := 107 }) (va_Pc [.ref h_t] (PreW D cA g sz (w_X6_hasPlaceFor cA h_t a_t o_t))) (va_Qi (fun (r : Int32) (_ : Unit) => r = rv) (PostW D cA sz (w_X6_hasPlaceFor cA h_t a_t o_t) (w_X6_hasPlaceFor cA h_t a_t o_t')) (va_A (w_X6_hasPlaceFor cA h_t a_t o_t) sz)) 0 0 (va_A (w_X6_hasPlaceFor cA h_t a_t o_t) sz) := by
  refine z_start (cc := cX6_readRule) (maxL := 1) (ret := (some .boolean)) (lv0 := [(0, .ref h_t)]) (Qc := fun sz => va_Qi (fun (r : Int32) (_ : Unit) => r = rv) (PostW D cA sz (w_X6_hasPlaceFor cA h_t a_t o_t) (w_X6_hasPlaceFor cA h_t a_t o_t')) (va_A (w_X6_hasPlaceFor cA h_t a_t o_t) sz)) (free := fun sz => va_A (w_X6_hasPlaceFor cA h_t a_t o_t) sz) (by decide +kernel) rfl rfl (Nat.le_of_ble_eq_true rfl) ?_
  intro p e R s m args below meth c A Q hR hA hQ X hr hin
  unfold f_X6_readRule at hF
  refine z_aload_n X dX6_readRule_0 rfl 0 rfl ?_
  refine z_get (v := .int (o_t 7 0)) X k_X6_readRule_43 0 rfl rfl dX6_readRule_1 ?_
  have hF := if_e hF
  refine z_if_eq (tgt := 13) X dX6_readRule_4 (by decide) (fun c34 => ?_) (fun c34 => ?_)
  · have hF := hF.1 c34
    refine z_aload_n X dX6_readRule_13 rfl 0 rfl ?_
    refine z_iconst (v := (1 : Int32)) X dX6_readRule_14 (by decide) ?_
    obtain ⟨o1, eo1, hF⟩ := nx_e hF
    refine z_putZ (ws' := (w_X6_hasPlaceFor cA h_t a_t o1)) X k_X6_readRule_43 tyX6 tyX6_ok nmX6 rfl rfl 0 rfl (Nat.le_of_ble_eq_true rfl) (by rw [eo1]; rfl) (Or.inr rfl) dX6_readRule_15 ?_
    refine z_aload_n X dX6_readRule_18 rfl 0 rfl ?_
    obtain ⟨o2, hc3, hF⟩ := zb1_e hF
    refine z_Vv (As := []) (rest := []) (wc := (w_X6_hasPlaceFor cA h_t a_t o1)) (wc' := (w_X6_hasPlaceFor cA h_t a_t o2)) (ws' := (w_X6_hasPlaceFor cA h_t a_t o2)) X (cwV 0 X.2.2.2.2.1 gX6_readRule_X6_advance rfl rfl rfl (by decide +kernel) (by rw [hR]; exact ⟨Nat.le_of_ble_eq_true rfl, Nat.le_of_ble_eq_true rfl⟩)) (fun sz => c_X6_advance l D cA g sz h_t a_t o1 o2 hc3) [0, 1, 2, 3, 4] [1000, 1001, 1002, 1003, 1004] rfl (by decide) rfl (by decide) rfl rfl rfl rfl rfl rfl (Nat.le_of_ble_eq_true rfl) dX6_readRule_19 ⟨Nat.zero_le _, Nat.zero_le _⟩ ?_
    refine z_aload_n X dX6_readRule_22 rfl 0 rfl ?_
    refine z_aload_n X dX6_readRule_23 rfl 0 rfl ?_
    refine z_lds (i := 3) X (by decide) rfl rfl dX6_readRule_24 ?_
    obtain ⟨r4, hc5, hF⟩ := zb1_e hF
    refine z_Vi (As := [.ref (g (1 + 3))]) (rest := [.ref h_t]) (wc := (w_X6_hasPlaceFor cA h_t a_t o2)) (wc' := (w_X6_hasPlaceFor cA h_t a_t o2)) (ws' := (w_X6_hasPlaceFor cA h_t a_t o2)) (rv := r4) X (cwV 1 X.2.2.2.2.1 gX6_readRule_X6_says rfl rfl rfl (by decide +kernel) (by rw [hR]; exact ⟨Nat.le_of_ble_eq_true rfl, Nat.le_of_ble_eq_true rfl⟩)) (fun sz => c_X6_says__3 l D cA g sz h_t a_t o2 r4 hc5) [0, 1, 2, 3, 4] [1000, 1001, 1002, 1003, 1004] rfl (by decide) rfl (by decide) rfl rfl rfl rfl rfl rfl (Nat.le_of_ble_eq_true rfl) dX6_readRule_26 ⟨Nat.zero_le _, Nat.zero_le _⟩ ?_
    obtain ⟨K14, eK14, hF⟩ := nx_e hF
    have K14_l : ∀ (j13 : Int32), K14 j13 = some (o_t', rv) → ZW p l e R s m args below meth c D A 1 0 0 Q (w_X6_hasPlaceFor cA h_t a_t o2) [(0, .ref h_t)] 63 [.int j13, .ref h_t] := by
      intro j13 hF
      rw [eK14] at hF
      obtain ⟨o15, eo15, hF⟩ := nx_e hF
      refine z_put (ws' := (w_X6_hasPlaceFor cA h_t a_t o15)) X k_X6_readRule_36 tyX6 tyX6_ok nmX6 rfl rfl 0 rfl (Nat.le_of_ble_eq_true rfl) (by rw [eo15]; rfl) dX6_readRule_63 ?_
      refine z_aload_n X dX6_readRule_66 rfl 0 rfl ?_
      refine z_get (v := .int (o15 5 0)) X k_X6_readRule_36 0 rfl rfl dX6_readRule_67 ?_
      refine z_iconst (v := (-1 : Int32)) X dX6_readRule_70 (by decide) ?_
      have hF := if_e hF
      refine z_icmp_ne (tgt := 80) X dX6_readRule_71 (by decide) (fun c22 => ?_) (fun c22 => ?_)
      · have hF := hF.2 c22
        refine z_aload_n X dX6_readRule_80 rfl 0 rfl ?_
        obtain ⟨o16, hc17, hF⟩ := zb1_e hF
        refine z_Vv (As := []) (rest := []) (wc := (w_X6_hasPlaceFor cA h_t a_t o15)) (wc' := (w_X6_hasPlaceFor cA h_t a_t o16)) (ws' := (w_X6_hasPlaceFor cA h_t a_t o16)) X (cwV 0 X.2.2.2.2.1 gX6_readRule_X6_advance rfl rfl rfl (by decide +kernel) (by rw [hR]; exact ⟨Nat.le_of_ble_eq_true rfl, Nat.le_of_ble_eq_true rfl⟩)) (fun sz => c_X6_advance l D cA g sz h_t a_t o15 o16 hc17) [0, 1, 2, 3, 4] [1000, 1001, 1002, 1003, 1004] rfl (by decide) rfl (by decide) rfl rfl rfl rfl rfl rfl (Nat.le_of_ble_eq_true rfl) dX6_readRule_81 ⟨Nat.zero_le _, Nat.zero_le _⟩ ?_
        refine z_iconst (v := (1 : Int32)) X dX6_readRule_84 (by decide) ?_
        cases hF
        exact z_zret X hA hQ hr (Or.inr rfl)  rfl dX6_readRule_85 (Nat.le_refl _) (Nat.le_refl _)
      · have hF := hF.1 c22
        refine z_aload_n X dX6_readRule_74 rfl 0 rfl ?_
        refine z_iconst (v := (1 : Int32)) X dX6_readRule_75 (by decide) ?_
        obtain ⟨o18, r19, hc20, hF⟩ := zb2_e hF
        refine z_Vi (As := [.int (1 : Int32)]) (rest := []) (wc := (w_X6_hasPlaceFor cA h_t a_t o15)) (wc' := (w_X6_hasPlaceFor cA h_t a_t o18)) (ws' := (w_X6_hasPlaceFor cA h_t a_t o18)) (rv := r19) X (cwV 1 X.2.2.2.2.1 gX6_readRule_X6_fail rfl rfl rfl (by decide +kernel) (by rw [hR]; exact ⟨Nat.le_of_ble_eq_true rfl, Nat.le_of_ble_eq_true rfl⟩)) (fun sz => c_X6_fail l D cA g sz h_t a_t o15 (1 : Int32) o18 r19 hc20) [0, 1, 2, 3, 4] [1000, 1001, 1002, 1003, 1004] rfl (by decide) rfl (by decide) rfl rfl rfl rfl rfl rfl (Nat.le_of_ble_eq_true rfl) dX6_readRule_76 ⟨Nat.zero_le _, Nat.zero_le _⟩ ?_
        obtain ⟨g21, hF⟩ := gz_e hF
        cases hF
        exact z_zret X hA hQ hr g21  rfl dX6_readRule_79 (Nat.le_refl _) (Nat.le_refl _)
    have hF := if_e hF
    refine z_if_eq (tgt := 36) X dX6_readRule_29 (by decide) (fun c29 => ?_) (fun c29 => ?_)
    · have hF := hF.1 c29
      refine z_aload_n X dX6_readRule_36 rfl 0 rfl ?_
      refine z_lds (i := 4) X (by decide) rfl rfl dX6_readRule_37 ?_
      obtain ⟨r23, hc24, hF⟩ := zb1_e hF
      refine z_Vi (As := [.ref (g (1 + 4))]) (rest := [.ref h_t]) (wc := (w_X6_hasPlaceFor cA h_t a_t o2)) (wc' := (w_X6_hasPlaceFor cA h_t a_t o2)) (ws' := (w_X6_hasPlaceFor cA h_t a_t o2)) (rv := r23) X (cwV 1 X.2.2.2.2.1 gX6_readRule_X6_says rfl rfl rfl (by decide +kernel) (by rw [hR]; exact ⟨Nat.le_of_ble_eq_true rfl, Nat.le_of_ble_eq_true rfl⟩)) (fun sz => c_X6_says__4 l D cA g sz h_t a_t o2 r23 hc24) [0, 1, 2, 3, 4] [1000, 1001, 1002, 1003, 1004] rfl (by decide) rfl (by decide) rfl rfl rfl rfl rfl rfl (Nat.le_of_ble_eq_true rfl) dX6_readRule_39 ⟨Nat.zero_le _, Nat.zero_le _⟩ ?_
      have hF := if_e hF
      refine z_if_eq (tgt := 49) X dX6_readRule_42 (by decide) (fun c28 => ?_) (fun c28 => ?_)
      · have hF := hF.1 c28
        refine z_aload_n X dX6_readRule_49 rfl 0 rfl ?_
        refine z_lds (i := 5) X (by decide) rfl rfl dX6_readRule_50 ?_
        obtain ⟨r25, hc26, hF⟩ := zb1_e hF
        refine z_Vi (As := [.ref (g (1 + 5))]) (rest := [.ref h_t]) (wc := (w_X6_hasPlaceFor cA h_t a_t o2)) (wc' := (w_X6_hasPlaceFor cA h_t a_t o2)) (ws' := (w_X6_hasPlaceFor cA h_t a_t o2)) (rv := r25) X (cwV 1 X.2.2.2.2.1 gX6_readRule_X6_says rfl rfl rfl (by decide +kernel) (by rw [hR]; exact ⟨Nat.le_of_ble_eq_true rfl, Nat.le_of_ble_eq_true rfl⟩)) (fun sz => c_X6_says__5 l D cA g sz h_t a_t o2 r25 hc26) [0, 1, 2, 3, 4] [1000, 1001, 1002, 1003, 1004] rfl (by decide) rfl (by decide) rfl rfl rfl rfl rfl rfl (Nat.le_of_ble_eq_true rfl) dX6_readRule_52 ⟨Nat.zero_le _, Nat.zero_le _⟩ ?_
        have hF := if_e hF
        refine z_if_eq (tgt := 62) X dX6_readRule_55 (by decide) (fun c27 => ?_) (fun c27 => ?_)
        · have hF := hF.1 c27
          refine z_iconst (v := (-1 : Int32)) X dX6_readRule_62 (by decide) ?_
          refine z_lv (lv' := [(0, .ref h_t)]) [0] rfl ?_
          exact K14_l (-1 : Int32) hF
        · have hF := hF.2 c27
          refine z_iconst (v := (2 : Int32)) X dX6_readRule_58 (by decide) ?_
          refine z_goto (tgt := 63) X dX6_readRule_59 (by decide) ?_
          refine z_lv (lv' := [(0, .ref h_t)]) [0] rfl ?_
          exact K14_l (2 : Int32) hF
      · have hF := hF.2 c28
        refine z_iconst (v := (1 : Int32)) X dX6_readRule_45 (by decide) ?_
        refine z_goto (tgt := 63) X dX6_readRule_46 (by decide) ?_
        refine z_lv (lv' := [(0, .ref h_t)]) [0] rfl ?_
        exact K14_l (1 : Int32) hF
    · have hF := hF.2 c29
      refine z_iconst (v := (0 : Int32)) X dX6_readRule_32 (by decide) ?_
      refine z_goto (tgt := 63) X dX6_readRule_33 (by decide) ?_
      refine z_lv (lv' := [(0, .ref h_t)]) [0] rfl ?_
      exact K14_l (0 : Int32) hF
  · have hF := hF.2 c34
    refine z_aload_n X dX6_readRule_7 rfl 0 rfl ?_
    refine z_iconst (v := (3 : Int32)) X dX6_readRule_8 (by decide) ?_
    obtain ⟨o30, r31, hc32, hF⟩ := zb2_e hF
    refine z_Vi (As := [.int (3 : Int32)]) (rest := []) (wc := (w_X6_hasPlaceFor cA h_t a_t o_t)) (wc' := (w_X6_hasPlaceFor cA h_t a_t o30)) (ws' := (w_X6_hasPlaceFor cA h_t a_t o30)) (rv := r31) X (cwV 1 X.2.2.2.2.1 gX6_readRule_X6_fail rfl rfl rfl (by decide +kernel) (by rw [hR]; exact ⟨Nat.le_of_ble_eq_true rfl, Nat.le_of_ble_eq_true rfl⟩)) (fun sz => c_X6_fail l D cA g sz h_t a_t o_t (3 : Int32) o30 r31 hc32) [0, 1, 2, 3, 4] [1000, 1001, 1002, 1003, 1004] rfl (by decide) rfl (by decide) rfl rfl rfl rfl rfl rfl (Nat.le_of_ble_eq_true rfl) dX6_readRule_9 ⟨Nat.zero_le _, Nat.zero_le _⟩ ?_
    obtain ⟨g33, hF⟩ := gz_e hF
    cases hF
    exact z_zret X hA hQ hr g33  rfl dX6_readRule_12 (Nat.le_refl _) (Nat.le_refl _)
set_option maxRecDepth 20000 in
theorem h_X6_isName_X6 : ∀ w ∈ wsX60, w ∈ wsX6_isName := by decide +kernel
set_option maxRecDepth 20000 in
theorem k_X6_isName_50 : ZF wsX6_isName RX6 50 6 13 RX6 TX6 17 := ⟨rfl, by decide, h_X6_isName_X6, by decide +kernel⟩
set_option maxHeartbeats 8000000 in
set_option maxRecDepth 100000 in
theorem c_X6_isName (l : Launch) (D : va_G) (cA : Nat → ClassId) (g : Nat → Nat) (sz : Nat) (h_t : Nat) (a_t : Nat → Nat) (o_t : Ob)  (rv : Int32) (hF : f_X6_isName o_t = some rv) : Met l yX6_isName wsX6_isName ({ frames := 5, cells := 0, slots := 0, locals := 107 }) (va_Pc [.ref h_t] (PreW D cA g sz (w_X6_hasPlaceFor cA h_t a_t o_t))) (va_Qi (fun (r : Int32) (_ : Unit) => r = rv) (PostW D cA sz (w_X6_hasPlaceFor cA h_t a_t o_t) (w_X6_hasPlaceFor cA h_t a_t o_t)) (va_A (w_X6_hasPlaceFor cA h_t a_t o_t) sz)) 0 0 (va_A (w_X6_hasPlaceFor cA h_t a_t o_t) sz) := by
  refine z_start (cc := cX6_isName) (maxL := 1) (ret := (some .boolean)) (lv0 := [(0, .ref h_t)]) (Qc := fun sz => va_Qi (fun (r : Int32) (_ : Unit) => r = rv) (PostW D cA sz (w_X6_hasPlaceFor cA h_t a_t o_t) (w_X6_hasPlaceFor cA h_t a_t o_t)) (va_A (w_X6_hasPlaceFor cA h_t a_t o_t) sz)) (free := fun sz => va_A (w_X6_hasPlaceFor cA h_t a_t o_t) sz) (by decide +kernel) rfl rfl (Nat.le_of_ble_eq_true rfl) ?_
  intro p e R s m args below meth c A Q hR hA hQ X hr hin
  unfold f_X6_isName at hF
  refine z_aload_n X dX6_isName_0 rfl 0 rfl ?_
  refine z_get (v := .int (o_t 13 0)) X k_X6_isName_50 0 rfl rfl dX6_isName_1 ?_
  refine z_iconst (v := (2 : Int32)) X dX6_isName_4 (by decide) ?_
  have hF := if_e hF
  refine z_icmp_ne (tgt := 48) X dX6_isName_5 (by decide) (fun c13 => ?_) (fun c13 => ?_)
  · have hF := hF.2 c13
    refine z_iconst (v := (0 : Int32)) X dX6_isName_48 (by decide) ?_
    cases hF
    exact z_zret X hA hQ hr (Or.inl rfl)  rfl dX6_isName_49 (Nat.le_refl _) (Nat.le_refl _)
  · have hF := hF.1 c13
    refine z_aload_n X dX6_isName_8 rfl 0 rfl ?_
    refine z_lds (i := 0) X (by decide) rfl rfl dX6_isName_9 ?_
    obtain ⟨r1, hc2, hF⟩ := zb1_e hF
    refine z_Vi (As := [.ref (g (1 + 0))]) (rest := []) (wc := (w_X6_hasPlaceFor cA h_t a_t o_t)) (wc' := (w_X6_hasPlaceFor cA h_t a_t o_t)) (ws' := (w_X6_hasPlaceFor cA h_t a_t o_t)) (rv := r1) X (cwV 1 X.2.2.2.2.1 gX6_isName_X6_says rfl rfl rfl (by decide +kernel) (by rw [hR]; exact ⟨Nat.le_of_ble_eq_true rfl, Nat.le_of_ble_eq_true rfl⟩)) (fun sz => c_X6_says__0 l D cA g sz h_t a_t o_t r1 hc2) [0, 1, 2, 3, 4] [1000, 1001, 1002, 1003, 1004] rfl (by decide) rfl (by decide) rfl rfl rfl rfl rfl rfl (Nat.le_of_ble_eq_true rfl) dX6_isName_11 ⟨Nat.zero_le _, Nat.zero_le _⟩ ?_
    have hF := if_e hF
    refine z_if_ne (tgt := 48) X dX6_isName_14 (by decide) (fun c12 => ?_) (fun c12 => ?_)
    · have hF := hF.2 c12
      refine z_iconst (v := (0 : Int32)) X dX6_isName_48 (by decide) ?_
      cases hF
      exact z_zret X hA hQ hr (Or.inl rfl)  rfl dX6_isName_49 (Nat.le_refl _) (Nat.le_refl _)
    · have hF := hF.1 c12
      refine z_aload_n X dX6_isName_17 rfl 0 rfl ?_
      refine z_lds (i := 1) X (by decide) rfl rfl dX6_isName_18 ?_
      obtain ⟨r3, hc4, hF⟩ := zb1_e hF
      refine z_Vi (As := [.ref (g (1 + 1))]) (rest := []) (wc := (w_X6_hasPlaceFor cA h_t a_t o_t)) (wc' := (w_X6_hasPlaceFor cA h_t a_t o_t)) (ws' := (w_X6_hasPlaceFor cA h_t a_t o_t)) (rv := r3) X (cwV 1 X.2.2.2.2.1 gX6_isName_X6_says rfl rfl rfl (by decide +kernel) (by rw [hR]; exact ⟨Nat.le_of_ble_eq_true rfl, Nat.le_of_ble_eq_true rfl⟩)) (fun sz => c_X6_says__1 l D cA g sz h_t a_t o_t r3 hc4) [0, 1, 2, 3, 4] [1000, 1001, 1002, 1003, 1004] rfl (by decide) rfl (by decide) rfl rfl rfl rfl rfl rfl (Nat.le_of_ble_eq_true rfl) dX6_isName_20 ⟨Nat.zero_le _, Nat.zero_le _⟩ ?_
      have hF := if_e hF
      refine z_if_ne (tgt := 48) X dX6_isName_23 (by decide) (fun c11 => ?_) (fun c11 => ?_)
      · have hF := hF.2 c11
        refine z_iconst (v := (0 : Int32)) X dX6_isName_48 (by decide) ?_
        cases hF
        exact z_zret X hA hQ hr (Or.inl rfl)  rfl dX6_isName_49 (Nat.le_refl _) (Nat.le_refl _)
      · have hF := hF.1 c11
        refine z_aload_n X dX6_isName_26 rfl 0 rfl ?_
        refine z_lds (i := 2) X (by decide) rfl rfl dX6_isName_27 ?_
        obtain ⟨r5, hc6, hF⟩ := zb1_e hF
        refine z_Vi (As := [.ref (g (1 + 2))]) (rest := []) (wc := (w_X6_hasPlaceFor cA h_t a_t o_t)) (wc' := (w_X6_hasPlaceFor cA h_t a_t o_t)) (ws' := (w_X6_hasPlaceFor cA h_t a_t o_t)) (rv := r5) X (cwV 1 X.2.2.2.2.1 gX6_isName_X6_says rfl rfl rfl (by decide +kernel) (by rw [hR]; exact ⟨Nat.le_of_ble_eq_true rfl, Nat.le_of_ble_eq_true rfl⟩)) (fun sz => c_X6_says__2 l D cA g sz h_t a_t o_t r5 hc6) [0, 1, 2, 3, 4] [1000, 1001, 1002, 1003, 1004] rfl (by decide) rfl (by decide) rfl rfl rfl rfl rfl rfl (Nat.le_of_ble_eq_true rfl) dX6_isName_29 ⟨Nat.zero_le _, Nat.zero_le _⟩ ?_
        have hF := if_e hF
        refine z_if_ne (tgt := 48) X dX6_isName_32 (by decide) (fun c10 => ?_) (fun c10 => ?_)
        · have hF := hF.2 c10
          refine z_iconst (v := (0 : Int32)) X dX6_isName_48 (by decide) ?_
          cases hF
          exact z_zret X hA hQ hr (Or.inl rfl)  rfl dX6_isName_49 (Nat.le_refl _) (Nat.le_refl _)
        · have hF := hF.1 c10
          refine z_aload_n X dX6_isName_35 rfl 0 rfl ?_
          refine z_lds (i := 6) X (by decide) rfl rfl dX6_isName_36 ?_
          obtain ⟨r7, hc8, hF⟩ := zb1_e hF
          refine z_Vi (As := [.ref (g (1 + 6))]) (rest := []) (wc := (w_X6_hasPlaceFor cA h_t a_t o_t)) (wc' := (w_X6_hasPlaceFor cA h_t a_t o_t)) (ws' := (w_X6_hasPlaceFor cA h_t a_t o_t)) (rv := r7) X (cwV 1 X.2.2.2.2.1 gX6_isName_X6_says rfl rfl rfl (by decide +kernel) (by rw [hR]; exact ⟨Nat.le_of_ble_eq_true rfl, Nat.le_of_ble_eq_true rfl⟩)) (fun sz => c_X6_says__6 l D cA g sz h_t a_t o_t r7 hc8) [0, 1, 2, 3, 4] [1000, 1001, 1002, 1003, 1004] rfl (by decide) rfl (by decide) rfl rfl rfl rfl rfl rfl (Nat.le_of_ble_eq_true rfl) dX6_isName_38 ⟨Nat.zero_le _, Nat.zero_le _⟩ ?_
          have hF := if_e hF
          refine z_if_ne (tgt := 48) X dX6_isName_41 (by decide) (fun c9 => ?_) (fun c9 => ?_)
          · have hF := hF.2 c9
            refine z_iconst (v := (0 : Int32)) X dX6_isName_48 (by decide) ?_
            cases hF
            exact z_zret X hA hQ hr (Or.inl rfl)  rfl dX6_isName_49 (Nat.le_refl _) (Nat.le_refl _)
          · have hF := hF.1 c9
            refine z_iconst (v := (1 : Int32)) X dX6_isName_44 (by decide) ?_
            refine z_goto (tgt := 49) X dX6_isName_45 (by decide) ?_
            cases hF
            exact z_zret X hA hQ hr (Or.inr rfl)  rfl dX6_isName_49 (Nat.le_refl _) (Nat.le_refl _)
abbrev w_X10_numberOf (cA : Nat → ClassId) (h_t : Nat) (a_t : Nat → Nat) (o_t : Ob) : va_W := [(h_t, .inr (10, [.int (o_t 0 0), .ref (a_t 1), .ref (a_t 2), .ref (a_t 3), .ref (a_t 4)])), (a_t 1, .inl (cA 0, 8, .inl (o_t 1))), (a_t 2, .inl (cA 0, 8, .inl (o_t 2))), (a_t 3, .inl (cA 0, 8, .inl (o_t 3))), (a_t 4, .inl (cA 0, 8, .inl (o_t 4)))]
set_option maxRecDepth 20000 in
theorem h_X10_numberOf_X10 : ∀ w ∈ wsX100, w ∈ wsX10_numberOf := by decide +kernel
set_option maxRecDepth 20000 in
theorem k_X10_numberOf_21 : ZF wsX10_numberOf RX10 21 10 4 RX10 TX10 5 := ⟨rfl, by decide, h_X10_numberOf_X10, by decide +kernel⟩
set_option maxRecDepth 20000 in
theorem k_X10_numberOf_24 : ZF wsX10_numberOf RX10 24 10 0 RX10 TX10 5 := ⟨rfl, by decide, h_X10_numberOf_X10, by decide +kernel⟩
set_option maxHeartbeats 8000000 in
set_option maxRecDepth 100000 in
theorem c_X10_numberOf (l : Launch) (D : va_G) (cA : Nat → ClassId) (g : Nat → Nat) (sz : Nat) (h_t : Nat) (a_t : Nat → Nat) (o_t : Ob) (v1 : Int32) (rv : Int32) (hF : f_X10_numberOf o_t v1 = some rv) : Met l yX10_numberOf wsX10_numberOf ({ frames := 0, cells := 0, slots := 0, locals := 0 }) (va_Pc [.ref h_t, .int v1] (PreW D cA g sz (w_X10_numberOf cA h_t a_t o_t))) (va_Qi (fun (r : Int32) (_ : Unit) => r = rv) (PostW D cA sz (w_X10_numberOf cA h_t a_t o_t) (w_X10_numberOf cA h_t a_t o_t)) (va_A (w_X10_numberOf cA h_t a_t o_t) sz)) 0 0 (va_A (w_X10_numberOf cA h_t a_t o_t) sz) := by
  refine z_start (cc := cX10_numberOf) (maxL := 3) (ret := (some .int)) (lv0 := [(0, .ref h_t), (1, .int v1)]) (Qc := fun sz => va_Qi (fun (r : Int32) (_ : Unit) => r = rv) (PostW D cA sz (w_X10_numberOf cA h_t a_t o_t) (w_X10_numberOf cA h_t a_t o_t)) (va_A (w_X10_numberOf cA h_t a_t o_t) sz)) (free := fun sz => va_A (w_X10_numberOf cA h_t a_t o_t) sz) (by decide +kernel) rfl rfl (Nat.le_of_ble_eq_true rfl) ?_
  intro p e R s m args below meth c A Q hR hA hQ X hr hin
  unfold f_X10_numberOf at hF
  refine z_iconst (v := (0 : Int32)) X dX10_numberOf_0 (by decide) ?_
  refine z_istore_n (lv' := [(2, .int (0 : Int32)), (0, .ref h_t), (1, .int v1)]) X dX10_numberOf_1 rfl (by decide) rfl ?_
  obtain ⟨z14, hL, hFx, L8_r⟩ := ze0_e hF
  have L8_x : ∀ (_ : True), z14 = .inl () → ZW p l e R s m args below meth c D A 3 0 0 Q (w_X10_numberOf cA h_t a_t o_t) [] 28 [] := by
    intro _ hz
    have hF := hFx  hz
    refine z_iconst (v := (-1 : Int32)) X dX10_numberOf_28 (by decide) ?_
    cases hF
    exact z_iret X hA hQ hr rfl dX10_numberOf_29 (Nat.le_refl _) (Nat.le_refl _)
  obtain ⟨B15, hBB15, hL⟩ := zl1_b hL
  have L8 : ∀ (n : Nat) (k7 : Int32), zl1 B15 n k7 = some z14 → ZW p l e R s m args below meth c D A 3 0 0 Q (w_X10_numberOf cA h_t a_t o_t) [(0, .ref h_t), (1, .int v1), (2, .int k7)] 2 [] := by
    intro n
    induction n with
    | zero => intro k7 hL; cases hL
    | succ n ih =>
      intro k7 hL
      obtain ⟨zz9, hF, hL⟩ := zl1_e hL
      rw [hBB15] at hF
      refine z_iload_n X dX10_numberOf_2 rfl 2 rfl ?_
      refine z_aload_n X dX10_numberOf_3 rfl 0 rfl ?_
      refine z_get (v := .int (o_t 0 0)) X k_X10_numberOf_24 0 rfl rfl dX10_numberOf_4 ?_
      have hF := if_e hF
      refine z_icmp_ge (tgt := 28) X dX10_numberOf_7 (by decide) (fun c13 => ?_) (fun c13 => ?_)
      · have hF := hF.1 c13
        cases hF
        have hL := Option.some.inj hL
        refine z_lv (lv' := []) [] rfl ?_
        exact L8_x trivial hL.symm
      · have hF := hF.2 c13
        refine z_aload_n X dX10_numberOf_10 rfl 0 rfl ?_
        refine z_get (v := .ref (a_t 4)) X k_X10_numberOf_21 0 rfl rfl dX10_numberOf_11 ?_
        refine z_iload_n X dX10_numberOf_14 rfl 2 rfl ?_
        obtain ⟨g10, hF⟩ := gi_e hF
        refine z_iald X 4 rfl g10 dX10_numberOf_15 ?_
        refine z_iload_n X dX10_numberOf_16 rfl 1 rfl ?_
        have hF := if_e hF
        refine z_icmp_ne (tgt := 22) X dX10_numberOf_17 (by decide) (fun c12 => ?_) (fun c12 => ?_)
        · have hF := hF.2 c12
          obtain ⟨x11, ex11, hF⟩ := nx_e hF
          refine z_iinc (v := x11) (lv' := [(2, .int x11), (0, .ref h_t), (1, .int v1)]) (j := 2) X dX10_numberOf_22 rfl (by rw [ex11]; rfl) (by decide) rfl ?_
          refine z_goto (tgt := 2) X dX10_numberOf_25 (by decide) ?_
          cases hF
          refine z_lv (lv' := [(0, .ref h_t), (1, .int v1), (2, .int x11)]) [1, 2, 0] rfl ?_
          exact ih x11 hL
        · have hF := hF.1 c12
          refine z_iload_n X dX10_numberOf_20 rfl 2 rfl ?_
          cases hF
          have hL := (Option.some.inj hL).symm
          have hF := L8_r _ hL
          cases hF
          exact z_iret X hA hQ hr rfl dX10_numberOf_21 (Nat.le_refl _) (Nat.le_refl _)
  refine z_lv (lv' := [(0, .ref h_t), (1, .int v1), (2, .int (0 : Int32))]) [1, 2, 0] rfl ?_
  exact L8 FU (0 : Int32) hL
abbrev w_X6_readItem (cA : Nat → ClassId) (h_t : Nat) (a_t : Nat → Nat) (o_t : Ob) (h_p1 : Nat) (a_p1 : Nat → Nat) (o_p1 : Ob) : va_W := [(h_t, .inr (6, [.ref (a_t 0), .int (o_t 1 0), .int (o_t 2 0), .int (o_t 3 0), .int (o_t 4 0), .int (o_t 5 0), .int (o_t 6 0), .int (o_t 7 0), .ref (a_t 8), .int (o_t 9 0), .int (o_t 10 0), .ref (a_t 11), .ref (a_t 12), .int (o_t 13 0), .int (o_t 14 0), .int (o_t 15 0), .int (o_t 16 0)])), (a_t 0, .inl (cA 0, 440, .inl (o_t 0))), (a_t 8, .inl (cA 0, 40, .inl (o_t 8))), (a_t 11, .inl (cA 0, 2, .inl (o_t 11))), (a_t 12, .inl (cA 0, 2, .inl (o_t 12))), (h_p1, .inr (10, [.int (o_p1 0 0), .ref (a_p1 1), .ref (a_p1 2), .ref (a_p1 3), .ref (a_p1 4)])), (a_p1 1, .inl (cA 0, 8, .inl (o_p1 1))), (a_p1 2, .inl (cA 0, 8, .inl (o_p1 2))), (a_p1 3, .inl (cA 0, 8, .inl (o_p1 3))), (a_p1 4, .inl (cA 0, 8, .inl (o_p1 4)))]
set_option maxRecDepth 20000 in
theorem h_X6_readItem_X10 : ∀ w ∈ wsX100, w ∈ wsX6_readItem := by decide +kernel
set_option maxRecDepth 20000 in
theorem k_X6_readItem_28 : ZF wsX6_readItem RX6 28 10 0 RX10 TX10 5 := ⟨rfl, by decide, h_X6_readItem_X10, by decide +kernel⟩
set_option maxRecDepth 20000 in
theorem h_X6_readItem_X6 : ∀ w ∈ wsX60, w ∈ wsX6_readItem := by decide +kernel
set_option maxRecDepth 20000 in
theorem k_X6_readItem_97 : ZF wsX6_readItem RX6 97 6 16 RX6 TX6 17 := ⟨rfl, by decide, h_X6_readItem_X6, by decide +kernel⟩
set_option maxRecDepth 20000 in
theorem k_X6_readItem_104 : ZF wsX6_readItem RX6 104 10 4 RX10 TX10 5 := ⟨rfl, by decide, h_X6_readItem_X10, by decide +kernel⟩
set_option maxRecDepth 20000 in
theorem k_X6_readItem_107 : ZF wsX6_readItem RX6 107 10 1 RX10 TX10 5 := ⟨rfl, by decide, h_X6_readItem_X10, by decide +kernel⟩
set_option maxRecDepth 20000 in
theorem k_X6_readItem_110 : ZF wsX6_readItem RX6 110 10 2 RX10 TX10 5 := ⟨rfl, by decide, h_X6_readItem_X10, by decide +kernel⟩
set_option maxRecDepth 20000 in
theorem k_X6_readItem_113 : ZF wsX6_readItem RX6 113 6 2 RX6 TX6 17 := ⟨rfl, by decide, h_X6_readItem_X6, by decide +kernel⟩
set_option maxRecDepth 20000 in
theorem k_X6_readItem_116 : ZF wsX6_readItem RX6 116 10 3 RX10 TX10 5 := ⟨rfl, by decide, h_X6_readItem_X10, by decide +kernel⟩
set_option maxHeartbeats 8000000 in
set_option maxRecDepth 100000 in
theorem c_X6_readItem (l : Launch) (D : va_G) (cA : Nat → ClassId) (g : Nat → Nat) (sz : Nat) (h_t : Nat) (a_t : Nat → Nat) (o_t : Ob) (h_p1 : Nat) (a_p1 : Nat → Nat) (o_p1 : Ob)  (o_t' : Ob) (o_p1' : Ob) (rv : Int32) (hF : f_X6_readItem o_t o_p1 = some (o_t', o_p1', rv)) : Met l yX6_readItem wsX6_readItem ({ frames := 6, cells := 0, slots := 0, locals := 127 }) (va_Pc [.ref h_t, .ref h_p1] (PreW D cA g sz (w_X6_readItem cA h_t a_t o_t h_p1 a_p1 o_p1))) (va_Qi (fun (r : Int32) (_ : Unit) => r = rv) (PostW D cA sz (w_X6_readItem cA h_t a_t o_t h_p1 a_p1 o_p1) (w_X6_readItem cA h_t a_t o_t' h_p1 a_p1 o_p1')) (va_A (w_X6_readItem cA h_t a_t o_t h_p1 a_p1 o_p1) sz)) 0 0 (va_A (w_X6_readItem cA h_t a_t o_t h_p1 a_p1 o_p1) sz) := by
  refine z_start (cc := cX6_readItem) (maxL := 3) (ret := (some .boolean)) (lv0 := [(0, .ref h_t), (1, .ref h_p1)]) (Qc := fun sz => va_Qi (fun (r : Int32) (_ : Unit) => r = rv) (PostW D cA sz (w_X6_readItem cA h_t a_t o_t h_p1 a_p1 o_p1) (w_X6_readItem cA h_t a_t o_t' h_p1 a_p1 o_p1')) (va_A (w_X6_readItem cA h_t a_t o_t h_p1 a_p1 o_p1) sz)) (free := fun sz => va_A (w_X6_readItem cA h_t a_t o_t h_p1 a_p1 o_p1) sz) (by decide +kernel) rfl rfl (Nat.le_of_ble_eq_true rfl) ?_
  intro p e R s m args below meth c A Q hR hA hQ X hr hin
  unfold f_X6_readItem at hF
  refine z_aload_n X dX6_readItem_0 rfl 1 rfl ?_
  refine z_get (v := .int (o_p1 0 0)) X k_X6_readItem_28 5 rfl rfl dX6_readItem_1 ?_
  obtain ⟨x1, ex1, hF⟩ := nx_e hF
  refine z_nm ex1 ?_
  refine z_istore_n (lv' := [(2, .int x1), (0, .ref h_t), (1, .ref h_p1)]) X dX6_readItem_4 rfl (by decide) rfl ?_
  refine z_iload_n X dX6_readItem_5 rfl 0 rfl ?_
  refine z_bipush (v := (8 : Int32)) X dX6_readItem_6 (by decide) ?_
  have hF := if_e hF
  refine z_icmp_lt (tgt := 17) X dX6_readItem_8 (by decide) (fun c59 => ?_) (fun c59 => ?_)
  · have hF := hF.1 c59
    refine z_aload_n X dX6_readItem_17 rfl 1 rfl ?_
    obtain ⟨o2, hc3, hF⟩ := zb1_e hF
    refine z_Vv (As := []) (rest := []) (wc := (w_X6_hasPlaceFor cA h_t a_t o_t)) (wc' := (w_X6_hasPlaceFor cA h_t a_t o2)) (ws' := (w_X6_readItem cA h_t a_t o2 h_p1 a_p1 o_p1)) X (cwV 0 X.2.2.2.2.1 gX6_readItem_X6_advance rfl rfl rfl (by decide +kernel) (by rw [hR]; exact ⟨Nat.le_of_ble_eq_true rfl, Nat.le_of_ble_eq_true rfl⟩)) (fun sz => c_X6_advance l D cA g sz h_t a_t o_t o2 hc3) [0, 1, 2, 3, 4] [1000, 1001, 1002, 1003, 1004, 5, 6, 7, 8, 9] rfl (by decide) rfl (by decide) rfl rfl rfl rfl rfl rfl (Nat.le_of_ble_eq_true rfl) dX6_readItem_18 ⟨Nat.zero_le _, Nat.zero_le _⟩ ?_
    refine z_aload_n X dX6_readItem_21 rfl 1 rfl ?_
    obtain ⟨r4, hc5, hF⟩ := zb1_e hF
    refine z_Vi (As := []) (rest := []) (wc := (w_X6_hasPlaceFor cA h_t a_t o2)) (wc' := (w_X6_hasPlaceFor cA h_t a_t o2)) (ws' := (w_X6_readItem cA h_t a_t o2 h_p1 a_p1 o_p1)) (rv := r4) X (cwV 0 X.2.2.2.2.1 gX6_readItem_X6_isName rfl rfl rfl (by decide +kernel) (by rw [hR]; exact ⟨Nat.le_of_ble_eq_true rfl, Nat.le_of_ble_eq_true rfl⟩)) (fun sz => c_X6_isName l D cA g sz h_t a_t o2 r4 hc5) [0, 1, 2, 3, 4] [1000, 1001, 1002, 1003, 1004, 5, 6, 7, 8, 9] rfl (by decide) rfl (by decide) rfl rfl rfl rfl rfl rfl (Nat.le_of_ble_eq_true rfl) dX6_readItem_22 ⟨Nat.zero_le _, Nat.zero_le _⟩ ?_
    have hF := if_e hF
    refine z_if_ne (tgt := 34) X dX6_readItem_25 (by decide) (fun c54 => ?_) (fun c54 => ?_)
    · have hF := hF.2 c54
      refine z_aload_n X dX6_readItem_34 rfl 2 rfl ?_
      refine z_aload_n X dX6_readItem_35 rfl 1 rfl ?_
      refine z_get (v := .int (o2 16 0)) X k_X6_readItem_97 0 rfl rfl dX6_readItem_36 ?_
      obtain ⟨r6, hc7, hF⟩ := zb1_e hF
      refine z_Vi (As := [.int (o2 16 0)]) (rest := []) (wc := (w_X10_numberOf cA h_p1 a_p1 o_p1)) (wc' := (w_X10_numberOf cA h_p1 a_p1 o_p1)) (ws' := (w_X6_readItem cA h_t a_t o2 h_p1 a_p1 o_p1)) (rv := r6) X (cwV 1 X.2.2.2.2.1 gX6_readItem_X10_numberOf rfl rfl rfl (by decide +kernel) (by rw [hR]; exact ⟨Nat.le_of_ble_eq_true rfl, Nat.le_of_ble_eq_true rfl⟩)) (fun sz => c_X10_numberOf l D cA g sz h_p1 a_p1 o_p1 (o2 16 0) r6 hc7) [5, 6, 7, 8, 9] [0, 1, 2, 3, 4, 1000, 1001, 1002, 1003, 1004] rfl (by decide) rfl (by decide) rfl rfl rfl rfl rfl rfl (Nat.le_of_ble_eq_true rfl) dX6_readItem_39 ⟨Nat.zero_le _, Nat.zero_le _⟩ ?_
      refine z_iconst (v := (-1 : Int32)) X dX6_readItem_42 (by decide) ?_
      have hF := if_e hF
      refine z_icmp_eq (tgt := 52) X dX6_readItem_43 (by decide) (fun c49 => ?_) (fun c49 => ?_)
      · have hF := hF.1 c49
        refine z_aload_n X dX6_readItem_52 rfl 2 rfl ?_
        refine z_get (v := .ref (a_p1 4)) X k_X6_readItem_104 5 rfl rfl dX6_readItem_53 ?_
        refine z_iload_n X dX6_readItem_56 rfl 0 rfl ?_
        refine z_aload_n X dX6_readItem_57 rfl 1 rfl ?_
        refine z_get (v := .int (o2 16 0)) X k_X6_readItem_97 0 rfl rfl dX6_readItem_58 ?_
        obtain ⟨g8, hF⟩ := gi_e hF
        obtain ⟨o9, eo9, hF⟩ := nx_e hF
        refine z_iast (ws' := (w_X6_readItem cA h_t a_t o2 h_p1 a_p1 o9)) X 9 rfl g8 (by rw [eo9]; rfl) dX6_readItem_61 ?_
        refine z_aload_n X dX6_readItem_62 rfl 1 rfl ?_
        obtain ⟨o10, hc11, hF⟩ := zb1_e hF
        refine z_Vv (As := []) (rest := []) (wc := (w_X6_hasPlaceFor cA h_t a_t o2)) (wc' := (w_X6_hasPlaceFor cA h_t a_t o10)) (ws' := (w_X6_readItem cA h_t a_t o10 h_p1 a_p1 o9)) X (cwV 0 X.2.2.2.2.1 gX6_readItem_X6_advance rfl rfl rfl (by decide +kernel) (by rw [hR]; exact ⟨Nat.le_of_ble_eq_true rfl, Nat.le_of_ble_eq_true rfl⟩)) (fun sz => c_X6_advance l D cA g sz h_t a_t o2 o10 hc11) [0, 1, 2, 3, 4] [1000, 1001, 1002, 1003, 1004, 5, 6, 7, 8, 9] rfl (by decide) rfl (by decide) rfl rfl rfl rfl rfl rfl (Nat.le_of_ble_eq_true rfl) dX6_readItem_63 ⟨Nat.zero_le _, Nat.zero_le _⟩ ?_
        refine z_aload_n X dX6_readItem_66 rfl 2 rfl ?_
        refine z_get (v := .ref (a_p1 1)) X k_X6_readItem_107 5 rfl rfl dX6_readItem_67 ?_
        refine z_iload_n X dX6_readItem_70 rfl 0 rfl ?_
        refine z_aload_n X dX6_readItem_71 rfl 1 rfl ?_
        refine z_iconst (v := (1 : Int32)) X dX6_readItem_72 (by decide) ?_
        refine z_bipush (v := (6 : Int32)) X dX6_readItem_73 (by decide) ?_
        obtain ⟨o12, r13, hc14, hF⟩ := zb2_e hF
        refine z_Vi (As := [.int (1 : Int32), .int (6 : Int32)]) (rest := [.int x1, .ref (a_p1 1)]) (wc := (w_X6_hasPlaceFor cA h_t a_t o10)) (wc' := (w_X6_hasPlaceFor cA h_t a_t o12)) (ws' := (w_X6_readItem cA h_t a_t o12 h_p1 a_p1 o9)) (rv := r13) X (cwV 2 X.2.2.2.2.1 gX6_readItem_X6_takeNumber rfl rfl rfl (by decide +kernel) (by rw [hR]; exact ⟨Nat.le_of_ble_eq_true rfl, Nat.le_of_ble_eq_true rfl⟩)) (fun sz => c_X6_takeNumber l D cA g sz h_t a_t o10 (1 : Int32) (6 : Int32) o12 r13 hc14) [0, 1, 2, 3, 4] [1000, 1001, 1002, 1003, 1004, 5, 6, 7, 8, 9] rfl (by decide) rfl (by decide) rfl rfl rfl rfl rfl rfl (Nat.le_of_ble_eq_true rfl) dX6_readItem_75 ⟨Nat.zero_le _, Nat.zero_le _⟩ ?_
        obtain ⟨g15, hF⟩ := gi_e hF
        obtain ⟨o16, eo16, hF⟩ := nx_e hF
        refine z_iast (ws' := (w_X6_readItem cA h_t a_t o12 h_p1 a_p1 o16)) X 6 rfl g15 (by rw [eo16]; rfl) dX6_readItem_78 ?_
        refine z_aload_n X dX6_readItem_79 rfl 2 rfl ?_
        refine z_get (v := .ref (a_p1 2)) X k_X6_readItem_110 5 rfl rfl dX6_readItem_80 ?_
        refine z_iload_n X dX6_readItem_83 rfl 0 rfl ?_
        refine z_aload_n X dX6_readItem_84 rfl 1 rfl ?_
        refine z_get (v := .int (o12 2 0)) X k_X6_readItem_113 0 rfl rfl dX6_readItem_85 ?_
        obtain ⟨K23, eK23, hF⟩ := nx_e hF
        have K23_l : ∀ (j21 : Int32) (q22 : Ob), K23 j21 q22 = some (o_t', o_p1', rv) → ZW p l e R s m args below meth c D A 3 0 0 Q (w_X6_readItem cA h_t a_t q22 h_p1 a_p1 o16) [(0, .ref h_t), (1, .ref h_p1), (2, .int x1)] 102 [.int j21, .int x1, .ref (a_p1 2)] := by
          intro j21 q22 hF
          rw [eK23] at hF
          obtain ⟨g24, hF⟩ := gi_e hF
          obtain ⟨o25, eo25, hF⟩ := nx_e hF
          refine z_iast (ws' := (w_X6_readItem cA h_t a_t q22 h_p1 a_p1 o25)) X 7 rfl g24 (by rw [eo25]; rfl) dX6_readItem_102 ?_
          refine z_aload_n X dX6_readItem_103 rfl 1 rfl ?_
          refine z_get (v := .ref (a_p1 3)) X k_X6_readItem_116 5 rfl rfl dX6_readItem_104 ?_
          refine z_iload_n X dX6_readItem_107 rfl 2 rfl ?_
          refine z_aload_n X dX6_readItem_108 rfl 0 rfl ?_
          refine z_get (v := .int (q22 2 0)) X k_X6_readItem_113 0 rfl rfl dX6_readItem_109 ?_
          obtain ⟨K32, eK32, hF⟩ := nx_e hF
          have K32_l : ∀ (j30 : Int32) (q31 : Ob), K32 j30 q31 = some (o_t', o_p1', rv) → ZW p l e R s m args below meth c D A 3 0 0 Q (w_X6_readItem cA h_t a_t q31 h_p1 a_p1 o25) [(0, .ref h_t), (1, .ref h_p1)] 126 [.int j30, .int x1, .ref (a_p1 3)] := by
            intro j30 q31 hF
            rw [eK32] at hF
            obtain ⟨g33, hF⟩ := gi_e hF
            obtain ⟨o34, eo34, hF⟩ := nx_e hF
            refine z_iast (ws' := (w_X6_readItem cA h_t a_t q31 h_p1 a_p1 o34)) X 8 rfl g33 (by rw [eo34]; rfl) dX6_readItem_126 ?_
            refine z_aload_n X dX6_readItem_127 rfl 1 rfl ?_
            refine z_dup X dX6_readItem_128 rfl ?_
            refine z_get (v := .int (o34 0 0)) X k_X6_readItem_28 5 rfl rfl dX6_readItem_129 ?_
            refine z_iconst (v := (1 : Int32)) X dX6_readItem_132 (by decide) ?_
            refine z_iadd X dX6_readItem_133 ?_
            obtain ⟨o35, eo35, hF⟩ := nx_e hF
            refine z_put (ws' := (w_X6_readItem cA h_t a_t q31 h_p1 a_p1 o35)) X k_X6_readItem_28 tyX10 tyX10_ok nmX10 rfl rfl 5 rfl (Nat.le_of_ble_eq_true rfl) (by rw [eo35]; rfl) dX6_readItem_134 ?_
            refine z_aload_n X dX6_readItem_137 rfl 0 rfl ?_
            refine z_get (v := .int (q31 2 0)) X k_X6_readItem_113 0 rfl rfl dX6_readItem_138 ?_
            have hF := if_e hF
            refine z_if_ne (tgt := 148) X dX6_readItem_141 (by decide) (fun c36 => ?_) (fun c36 => ?_)
            · have hF := hF.2 c36
              refine z_iconst (v := (0 : Int32)) X dX6_readItem_148 (by decide) ?_
              cases hF
              exact z_zret X hA hQ hr (Or.inl rfl)  rfl dX6_readItem_149 (Nat.le_refl _) (Nat.le_refl _)
            · have hF := hF.1 c36
              refine z_iconst (v := (1 : Int32)) X dX6_readItem_144 (by decide) ?_
              refine z_goto (tgt := 149) X dX6_readItem_145 (by decide) ?_
              cases hF
              exact z_zret X hA hQ hr (Or.inr rfl)  rfl dX6_readItem_149 (Nat.le_refl _) (Nat.le_refl _)
          have hF := if_e hF
          refine z_if_ne (tgt := 125) X dX6_readItem_112 (by decide) (fun c40 => ?_) (fun c40 => ?_)
          · have hF := hF.2 c40
            refine z_iconst (v := (-1 : Int32)) X dX6_readItem_125 (by decide) ?_
            refine z_lv (lv' := [(0, .ref h_t), (1, .ref h_p1)]) [0, 1] rfl ?_
            exact K32_l (-1 : Int32) q22 hF
          · have hF := hF.1 c40
            refine z_aload_n X dX6_readItem_115 rfl 0 rfl ?_
            refine z_iconst (v := (1 : Int32)) X dX6_readItem_116 (by decide) ?_
            refine z_bipush (v := (20 : Int32)) X dX6_readItem_117 (by decide) ?_
            obtain ⟨o37, r38, hc39, hF⟩ := zb2_e hF
            refine z_Vi (As := [.int (1 : Int32), .int (20 : Int32)]) (rest := [.int x1, .ref (a_p1 3)]) (wc := (w_X6_hasPlaceFor cA h_t a_t q22)) (wc' := (w_X6_hasPlaceFor cA h_t a_t o37)) (ws' := (w_X6_readItem cA h_t a_t o37 h_p1 a_p1 o25)) (rv := r38) X (cwV 2 X.2.2.2.2.1 gX6_readItem_X6_takeNumber rfl rfl rfl (by decide +kernel) (by rw [hR]; exact ⟨Nat.le_of_ble_eq_true rfl, Nat.le_of_ble_eq_true rfl⟩)) (fun sz => c_X6_takeNumber l D cA g sz h_t a_t q22 (1 : Int32) (20 : Int32) o37 r38 hc39) [0, 1, 2, 3, 4] [1000, 1001, 1002, 1003, 1004, 5, 6, 7, 8, 9] rfl (by decide) rfl (by decide) rfl rfl rfl rfl rfl rfl (Nat.le_of_ble_eq_true rfl) dX6_readItem_119 ⟨Nat.zero_le _, Nat.zero_le _⟩ ?_
            refine z_goto (tgt := 126) X dX6_readItem_122 (by decide) ?_
            refine z_lv (lv' := [(0, .ref h_t), (1, .ref h_p1)]) [0, 1] rfl ?_
            exact K32_l r38 o37 hF
        have hF := if_e hF
        refine z_if_ne (tgt := 101) X dX6_readItem_88 (by decide) (fun c44 => ?_) (fun c44 => ?_)
        · have hF := hF.2 c44
          refine z_iconst (v := (-1 : Int32)) X dX6_readItem_101 (by decide) ?_
          refine z_lv (lv' := [(0, .ref h_t), (1, .ref h_p1), (2, .int x1)]) [1, 2, 0] rfl ?_
          exact K23_l (-1 : Int32) o12 hF
        · have hF := hF.1 c44
          refine z_aload_n X dX6_readItem_91 rfl 1 rfl ?_
          refine z_iconst (v := (1 : Int32)) X dX6_readItem_92 (by decide) ?_
          refine z_bipush (v := (60 : Int32)) X dX6_readItem_93 (by decide) ?_
          obtain ⟨o41, r42, hc43, hF⟩ := zb2_e hF
          refine z_Vi (As := [.int (1 : Int32), .int (60 : Int32)]) (rest := [.int x1, .ref (a_p1 2)]) (wc := (w_X6_hasPlaceFor cA h_t a_t o12)) (wc' := (w_X6_hasPlaceFor cA h_t a_t o41)) (ws' := (w_X6_readItem cA h_t a_t o41 h_p1 a_p1 o16)) (rv := r42) X (cwV 2 X.2.2.2.2.1 gX6_readItem_X6_takeNumber rfl rfl rfl (by decide +kernel) (by rw [hR]; exact ⟨Nat.le_of_ble_eq_true rfl, Nat.le_of_ble_eq_true rfl⟩)) (fun sz => c_X6_takeNumber l D cA g sz h_t a_t o12 (1 : Int32) (60 : Int32) o41 r42 hc43) [0, 1, 2, 3, 4] [1000, 1001, 1002, 1003, 1004, 5, 6, 7, 8, 9] rfl (by decide) rfl (by decide) rfl rfl rfl rfl rfl rfl (Nat.le_of_ble_eq_true rfl) dX6_readItem_95 ⟨Nat.zero_le _, Nat.zero_le _⟩ ?_
          refine z_goto (tgt := 102) X dX6_readItem_98 (by decide) ?_
          refine z_lv (lv' := [(0, .ref h_t), (1, .ref h_p1), (2, .int x1)]) [1, 2, 0] rfl ?_
          exact K23_l r42 o41 hF
      · have hF := hF.2 c49
        refine z_aload_n X dX6_readItem_46 rfl 1 rfl ?_
        refine z_iconst (v := (3 : Int32)) X dX6_readItem_47 (by decide) ?_
        obtain ⟨o45, r46, hc47, hF⟩ := zb2_e hF
        refine z_Vi (As := [.int (3 : Int32)]) (rest := []) (wc := (w_X6_hasPlaceFor cA h_t a_t o2)) (wc' := (w_X6_hasPlaceFor cA h_t a_t o45)) (ws' := (w_X6_readItem cA h_t a_t o45 h_p1 a_p1 o_p1)) (rv := r46) X (cwV 1 X.2.2.2.2.1 gX6_readItem_X6_fail rfl rfl rfl (by decide +kernel) (by rw [hR]; exact ⟨Nat.le_of_ble_eq_true rfl, Nat.le_of_ble_eq_true rfl⟩)) (fun sz => c_X6_fail l D cA g sz h_t a_t o2 (3 : Int32) o45 r46 hc47) [0, 1, 2, 3, 4] [1000, 1001, 1002, 1003, 1004, 5, 6, 7, 8, 9] rfl (by decide) rfl (by decide) rfl rfl rfl rfl rfl rfl (Nat.le_of_ble_eq_true rfl) dX6_readItem_48 ⟨Nat.zero_le _, Nat.zero_le _⟩ ?_
        obtain ⟨g48, hF⟩ := gz_e hF
        cases hF
        exact z_zret X hA hQ hr g48  rfl dX6_readItem_51 (Nat.le_refl _) (Nat.le_refl _)
    · have hF := hF.1 c54
      refine z_aload_n X dX6_readItem_28 rfl 1 rfl ?_
      refine z_iconst (v := (1 : Int32)) X dX6_readItem_29 (by decide) ?_
      obtain ⟨o50, r51, hc52, hF⟩ := zb2_e hF
      refine z_Vi (As := [.int (1 : Int32)]) (rest := []) (wc := (w_X6_hasPlaceFor cA h_t a_t o2)) (wc' := (w_X6_hasPlaceFor cA h_t a_t o50)) (ws' := (w_X6_readItem cA h_t a_t o50 h_p1 a_p1 o_p1)) (rv := r51) X (cwV 1 X.2.2.2.2.1 gX6_readItem_X6_fail rfl rfl rfl (by decide +kernel) (by rw [hR]; exact ⟨Nat.le_of_ble_eq_true rfl, Nat.le_of_ble_eq_true rfl⟩)) (fun sz => c_X6_fail l D cA g sz h_t a_t o2 (1 : Int32) o50 r51 hc52) [0, 1, 2, 3, 4] [1000, 1001, 1002, 1003, 1004, 5, 6, 7, 8, 9] rfl (by decide) rfl (by decide) rfl rfl rfl rfl rfl rfl (Nat.le_of_ble_eq_true rfl) dX6_readItem_30 ⟨Nat.zero_le _, Nat.zero_le _⟩ ?_
      obtain ⟨g53, hF⟩ := gz_e hF
      cases hF
      exact z_zret X hA hQ hr g53  rfl dX6_readItem_33 (Nat.le_refl _) (Nat.le_refl _)
  · have hF := hF.2 c59
    refine z_aload_n X dX6_readItem_11 rfl 1 rfl ?_
    refine z_iconst (v := (4 : Int32)) X dX6_readItem_12 (by decide) ?_
    obtain ⟨o55, r56, hc57, hF⟩ := zb2_e hF
    refine z_Vi (As := [.int (4 : Int32)]) (rest := []) (wc := (w_X6_hasPlaceFor cA h_t a_t o_t)) (wc' := (w_X6_hasPlaceFor cA h_t a_t o55)) (ws' := (w_X6_readItem cA h_t a_t o55 h_p1 a_p1 o_p1)) (rv := r56) X (cwV 1 X.2.2.2.2.1 gX6_readItem_X6_fail rfl rfl rfl (by decide +kernel) (by rw [hR]; exact ⟨Nat.le_of_ble_eq_true rfl, Nat.le_of_ble_eq_true rfl⟩)) (fun sz => c_X6_fail l D cA g sz h_t a_t o_t (4 : Int32) o55 r56 hc57) [0, 1, 2, 3, 4] [1000, 1001, 1002, 1003, 1004, 5, 6, 7, 8, 9] rfl (by decide) rfl (by decide) rfl rfl rfl rfl rfl rfl (Nat.le_of_ble_eq_true rfl) dX6_readItem_13 ⟨Nat.zero_le _, Nat.zero_le _⟩ ?_
    obtain ⟨g58, hF⟩ := gz_e hF
    cases hF
    exact z_zret X hA hQ hr g58  rfl dX6_readItem_16 (Nat.le_refl _) (Nat.le_refl _)
