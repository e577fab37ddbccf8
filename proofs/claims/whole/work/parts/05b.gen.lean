set_option maxRecDepth 20000 in
theorem h_X12_item_X12 : ∀ w ∈ wsX120, w ∈ wsX12_item := by decide +kernel
set_option maxRecDepth 20000 in
theorem k_X12_item_19 : ZF wsX12_item RX12 19 12 3 RX12 TX12 47 := ⟨rfl, by decide, h_X12_item_X12, by decide +kernel⟩
set_option maxRecDepth 20000 in
theorem k_X12_item_30 : ZF wsX12_item RX12 30 12 15 RX12 TX12 47 := ⟨rfl, by decide, h_X12_item_X12, by decide +kernel⟩
set_option maxRecDepth 20000 in
theorem k_X12_item_110 : ZF wsX12_item RX12 110 12 12 RX12 TX12 47 := ⟨rfl, by decide, h_X12_item_X12, by decide +kernel⟩
set_option maxRecDepth 20000 in
theorem k_X12_item_123 : ZF wsX12_item RX12 123 12 16 RX12 TX12 47 := ⟨rfl, by decide, h_X12_item_X12, by decide +kernel⟩
set_option maxHeartbeats 8000000 in
set_option maxRecDepth 100000 in
theorem c_X12_item (l : Launch) (D : va_G) (cA : Nat → ClassId) (g : Nat → Nat) (sz : Nat) (h_t : Nat) (a_t : Nat → Nat) (o_t : Ob)  (o_t' : Ob) (rv : Int32) (hF : f_X12_item o_t = some (o_t', rv)) : Met l yX12_item wsX12_item ({ frames := 3, cells := 0, slots := 0, locals := 65 }) (va_Pc [.ref h_t] (PreW D cA g sz (w_X12_four cA h_t a_t o_t))) (va_Qi (fun (r : Int32) (_ : Unit) => r = rv) (PostW D cA sz (w_X12_four cA h_t a_t o_t) (w_X12_four cA h_t a_t o_t')) (va_A (w_X12_four cA h_t a_t o_t) sz)) 0 0 (va_A (w_X12_four cA h_t a_t o_t) sz) := by
  refine z_start (cc := cX12_item) (maxL := 3) (ret := (some .boolean)) (lv0 := [(0, .ref h_t)]) (Qc := fun sz => va_Qi (fun (r : Int32) (_ : Unit) => r = rv) (PostW D cA sz (w_X12_four cA h_t a_t o_t) (w_X12_four cA h_t a_t o_t')) (va_A (w_X12_four cA h_t a_t o_t) sz)) (free := fun sz => va_A (w_X12_four cA h_t a_t o_t) sz) (by decide +kernel) rfl rfl (Nat.le_of_ble_eq_true rfl) ?_
  intro p e R s m args below meth c A Q hR hA hQ X hr hin
  unfold f_X12_item at hF
  refine z_aload_n X dX12_item_0 rfl 0 rfl ?_
  refine z_get (v := .ref (a_t 3)) X k_X12_item_19 0 rfl rfl dX12_item_1 ?_
  refine z_iconst (v := (2 : Int32)) X dX12_item_4 (by decide) ?_
  obtain ⟨g1, hF⟩ := gi_e hF
  refine z_iald X 4 rfl g1 dX12_item_5 ?_
  refine z_bipush (v := (8 : Int32)) X dX12_item_6 (by decide) ?_
  have hF := if_e hF
  refine z_icmp_ne (tgt := 17) X dX12_item_8 (by decide) (fun c79 => ?_) (fun c79 => ?_)
  · have hF := hF.2 c79
    refine z_aload_n X dX12_item_17 rfl 0 rfl ?_
    obtain ⟨o2, hc3, hF⟩ := zb1_e hF
    refine z_Vv (As := []) (rest := []) (wc := (w_X12_four cA h_t a_t o_t)) (wc' := (w_X12_four cA h_t a_t o2)) (ws' := (w_X12_four cA h_t a_t o2)) X (cwV 0 X.2.2.2.2.1 gX12_item_X12_next rfl rfl rfl (by decide +kernel) (by rw [hR]; exact ⟨Nat.le_of_ble_eq_true rfl, Nat.le_of_ble_eq_true rfl⟩)) (fun sz => c_X12_next l D cA g sz h_t a_t o_t o2 hc3) [0, 1, 2, 3, 4, 5, 6, 7, 8, 9, 10, 11, 12, 13, 14, 15, 16, 17, 18, 19, 20, 21] [1000, 1001, 1002, 1003, 1004, 1005, 1006, 1007, 1008, 1009, 1010, 1011, 1012, 1013, 1014, 1015, 1016, 1017, 1018, 1019, 1020, 1021] rfl (by decide) rfl (by decide) rfl rfl rfl rfl rfl rfl (Nat.le_of_ble_eq_true rfl) dX12_item_18 ⟨Nat.zero_le _, Nat.zero_le _⟩ ?_
    refine z_aload_n X dX12_item_21 rfl 0 rfl ?_
    obtain ⟨r4, hc5, hF⟩ := zb1_e hF
    refine z_Vi (As := []) (rest := []) (wc := (w_X12_four cA h_t a_t o2)) (wc' := (w_X12_four cA h_t a_t o2)) (ws' := (w_X12_four cA h_t a_t o2)) (rv := r4) X (cwV 0 X.2.2.2.2.1 gX12_item_X12_isName rfl rfl rfl (by decide +kernel) (by rw [hR]; exact ⟨Nat.le_of_ble_eq_true rfl, Nat.le_of_ble_eq_true rfl⟩)) (fun sz => c_X12_isName l D cA g sz h_t a_t o2 r4 hc5) [0, 1, 2, 3, 4, 5, 6, 7, 8, 9, 10, 11, 12, 13, 14, 15, 16, 17, 18, 19, 20, 21] [1000, 1001, 1002, 1003, 1004, 1005, 1006, 1007, 1008, 1009, 1010, 1011, 1012, 1013, 1014, 1015, 1016, 1017, 1018, 1019, 1020, 1021] rfl (by decide) rfl (by decide) rfl rfl rfl rfl rfl rfl (Nat.le_of_ble_eq_true rfl) dX12_item_22 ⟨Nat.zero_le _, Nat.zero_le _⟩ ?_
    have hF := if_e hF
    refine z_if_ne (tgt := 34) X dX12_item_25 (by decide) (fun c74 => ?_) (fun c74 => ?_)
    · have hF := hF.2 c74
      refine z_aload_n X dX12_item_34 rfl 0 rfl ?_
      refine z_aload_n X dX12_item_35 rfl 0 rfl ?_
      refine z_get (v := .ref (a_t 3)) X k_X12_item_19 0 rfl rfl dX12_item_36 ?_
      obtain ⟨r6, hc7, hF⟩ := zb1_e hF
      refine z_Vi (As := [.ref (a_t 3)]) (rest := []) (wc := (w_X12_four cA h_t a_t o2)) (wc' := (w_X12_four cA h_t a_t o2)) (ws' := (w_X12_four cA h_t a_t o2)) (rv := r6) X (cwV 1 X.2.2.2.2.1 gX12_item_X12_named rfl rfl rfl (by decide +kernel) (by rw [hR]; exact ⟨Nat.le_of_ble_eq_true rfl, Nat.le_of_ble_eq_true rfl⟩)) (fun sz => c_X12_named__spare l D cA g sz h_t a_t o2 r6 hc7) [0, 1, 2, 3, 4, 5, 6, 7, 8, 9, 10, 11, 12, 13, 14, 15, 16, 17, 18, 19, 20, 21] [1000, 1001, 1002, 1003, 1004, 1005, 1006, 1007, 1008, 1009, 1010, 1011, 1012, 1013, 1014, 1015, 1016, 1017, 1018, 1019, 1020, 1021] rfl (by decide) rfl (by decide) rfl rfl rfl rfl rfl rfl (Nat.le_of_ble_eq_true rfl) dX12_item_39 ⟨Nat.zero_le _, Nat.zero_le _⟩ ?_
      have hF := if_e hF
      refine z_if_lt (tgt := 51) X dX12_item_42 (by decide) (fun c69 => ?_) (fun c69 => ?_)
      · have hF := hF.1 c69
        refine z_aload_n X dX12_item_51 rfl 0 rfl ?_
        refine z_get (v := .ref (a_t 3)) X k_X12_item_19 0 rfl rfl dX12_item_52 ?_
        refine z_iconst (v := (2 : Int32)) X dX12_item_55 (by decide) ?_
        obtain ⟨g8, hF⟩ := gi_e hF
        refine z_iald X 4 rfl g8 dX12_item_56 ?_
        obtain ⟨x9, ex9, hF⟩ := nx_e hF
        refine z_nm ex9 ?_
        refine z_istore_n (lv' := [(1, .int x9), (0, .ref h_t)]) X dX12_item_57 rfl (by decide) rfl ?_
        refine z_iconst (v := (0 : Int32)) X dX12_item_58 (by decide) ?_
        refine z_istore_n (lv' := [(2, .int (0 : Int32)), (1, .int x9), (0, .ref h_t)]) X dX12_item_59 rfl (by decide) rfl ?_
        obtain ⟨o23, hL, hF⟩ := zb1_e hF
        have L53_x : ∀ (o23' : Ob), o23' = o23 → ZW p l e R s m args below meth c D A 3 0 0 Q (w_X12_four cA h_t a_t o23') [(0, .ref h_t), (1, .int x9)] 104 [] := by
          intro o23' hz
          cases hz
          refine z_aload_n X dX12_item_104 rfl 0 rfl ?_
          obtain ⟨o24, hc25, hF⟩ := zb1_e hF
          refine z_Vv (As := []) (rest := []) (wc := (w_X12_four cA h_t a_t o23)) (wc' := (w_X12_four cA h_t a_t o24)) (ws' := (w_X12_four cA h_t a_t o24)) X (cwV 0 X.2.2.2.2.1 gX12_item_X12_next rfl rfl rfl (by decide +kernel) (by rw [hR]; exact ⟨Nat.le_of_ble_eq_true rfl, Nat.le_of_ble_eq_true rfl⟩)) (fun sz => c_X12_next l D cA g sz h_t a_t o23 o24 hc25) [0, 1, 2, 3, 4, 5, 6, 7, 8, 9, 10, 11, 12, 13, 14, 15, 16, 17, 18, 19, 20, 21] [1000, 1001, 1002, 1003, 1004, 1005, 1006, 1007, 1008, 1009, 1010, 1011, 1012, 1013, 1014, 1015, 1016, 1017, 1018, 1019, 1020, 1021] rfl (by decide) rfl (by decide) rfl rfl rfl rfl rfl rfl (Nat.le_of_ble_eq_true rfl) dX12_item_105 ⟨Nat.zero_le _, Nat.zero_le _⟩ ?_
          refine z_aload_n X dX12_item_108 rfl 0 rfl ?_
          refine z_iconst (v := (1 : Int32)) X dX12_item_109 (by decide) ?_
          refine z_bipush (v := (6 : Int32)) X dX12_item_110 (by decide) ?_
          obtain ⟨o26, r27, hc28, hF⟩ := zb2_e hF
          refine z_Vi (As := [.int (1 : Int32), .int (6 : Int32)]) (rest := []) (wc := (w_X12_four cA h_t a_t o24)) (wc' := (w_X12_four cA h_t a_t o26)) (ws' := (w_X12_four cA h_t a_t o26)) (rv := r27) X (cwV 2 X.2.2.2.2.1 gX12_item_X12_number rfl rfl rfl (by decide +kernel) (by rw [hR]; exact ⟨Nat.le_of_ble_eq_true rfl, Nat.le_of_ble_eq_true rfl⟩)) (fun sz => c_X12_number l D cA g sz h_t a_t o24 (1 : Int32) (6 : Int32) o26 r27 hc28) [0, 1, 2, 3, 4, 5, 6, 7, 8, 9, 10, 11, 12, 13, 14, 15, 16, 17, 18, 19, 20, 21] [1000, 1001, 1002, 1003, 1004, 1005, 1006, 1007, 1008, 1009, 1010, 1011, 1012, 1013, 1014, 1015, 1016, 1017, 1018, 1019, 1020, 1021] rfl (by decide) rfl (by decide) rfl rfl rfl rfl rfl rfl (Nat.le_of_ble_eq_true rfl) dX12_item_112 ⟨Nat.zero_le _, Nat.zero_le _⟩ ?_
          have hF := if_e hF
          refine z_if_ne (tgt := 120) X dX12_item_115 (by decide) (fun c52 => ?_) (fun c52 => ?_)
          · have hF := hF.2 c52
            refine z_aload_n X dX12_item_120 rfl 0 rfl ?_
            refine z_get (v := .ref (a_t 3)) X k_X12_item_19 0 rfl rfl dX12_item_121 ?_
            refine z_bipush (v := (8 : Int32)) X dX12_item_124 (by decide) ?_
            refine z_iload_n X dX12_item_126 rfl 1 rfl ?_
            refine z_iadd X dX12_item_127 ?_
            refine z_aload_n X dX12_item_128 rfl 0 rfl ?_
            refine z_get (v := .int (o26 12 0)) X k_X12_item_110 0 rfl rfl dX12_item_129 ?_
            obtain ⟨g29, hF⟩ := gi_e hF
            obtain ⟨o30, eo30, hF⟩ := nx_e hF
            refine z_iast (ws' := (w_X12_four cA h_t a_t o30)) X 4 rfl g29 (by rw [eo30]; rfl) dX12_item_132 ?_
            refine z_aload_n X dX12_item_133 rfl 0 rfl ?_
            obtain ⟨o31, hc32, hF⟩ := zb1_e hF
            refine z_Vv (As := []) (rest := []) (wc := (w_X12_four cA h_t a_t o30)) (wc' := (w_X12_four cA h_t a_t o31)) (ws' := (w_X12_four cA h_t a_t o31)) X (cwV 0 X.2.2.2.2.1 gX12_item_X12_next rfl rfl rfl (by decide +kernel) (by rw [hR]; exact ⟨Nat.le_of_ble_eq_true rfl, Nat.le_of_ble_eq_true rfl⟩)) (fun sz => c_X12_next l D cA g sz h_t a_t o30 o31 hc32) [0, 1, 2, 3, 4, 5, 6, 7, 8, 9, 10, 11, 12, 13, 14, 15, 16, 17, 18, 19, 20, 21] [1000, 1001, 1002, 1003, 1004, 1005, 1006, 1007, 1008, 1009, 1010, 1011, 1012, 1013, 1014, 1015, 1016, 1017, 1018, 1019, 1020, 1021] rfl (by decide) rfl (by decide) rfl rfl rfl rfl rfl rfl (Nat.le_of_ble_eq_true rfl) dX12_item_134 ⟨Nat.zero_le _, Nat.zero_le _⟩ ?_
            refine z_aload_n X dX12_item_137 rfl 0 rfl ?_
            refine z_iconst (v := (1 : Int32)) X dX12_item_138 (by decide) ?_
            refine z_bipush (v := (60 : Int32)) X dX12_item_139 (by decide) ?_
            obtain ⟨o33, r34, hc35, hF⟩ := zb2_e hF
            refine z_Vi (As := [.int (1 : Int32), .int (60 : Int32)]) (rest := []) (wc := (w_X12_four cA h_t a_t o31)) (wc' := (w_X12_four cA h_t a_t o33)) (ws' := (w_X12_four cA h_t a_t o33)) (rv := r34) X (cwV 2 X.2.2.2.2.1 gX12_item_X12_number rfl rfl rfl (by decide +kernel) (by rw [hR]; exact ⟨Nat.le_of_ble_eq_true rfl, Nat.le_of_ble_eq_true rfl⟩)) (fun sz => c_X12_number l D cA g sz h_t a_t o31 (1 : Int32) (60 : Int32) o33 r34 hc35) [0, 1, 2, 3, 4, 5, 6, 7, 8, 9, 10, 11, 12, 13, 14, 15, 16, 17, 18, 19, 20, 21] [1000, 1001, 1002, 1003, 1004, 1005, 1006, 1007, 1008, 1009, 1010, 1011, 1012, 1013, 1014, 1015, 1016, 1017, 1018, 1019, 1020, 1021] rfl (by decide) rfl (by decide) rfl rfl rfl rfl rfl rfl (Nat.le_of_ble_eq_true rfl) dX12_item_141 ⟨Nat.zero_le _, Nat.zero_le _⟩ ?_
            have hF := if_e hF
            refine z_if_ne (tgt := 149) X dX12_item_144 (by decide) (fun c51 => ?_) (fun c51 => ?_)
            · have hF := hF.2 c51
              refine z_aload_n X dX12_item_149 rfl 0 rfl ?_
              refine z_get (v := .ref (a_t 3)) X k_X12_item_19 0 rfl rfl dX12_item_150 ?_
              refine z_bipush (v := (16 : Int32)) X dX12_item_153 (by decide) ?_
              refine z_iload_n X dX12_item_155 rfl 1 rfl ?_
              refine z_iadd X dX12_item_156 ?_
              refine z_aload_n X dX12_item_157 rfl 0 rfl ?_
              refine z_get (v := .int (o33 12 0)) X k_X12_item_110 0 rfl rfl dX12_item_158 ?_
              obtain ⟨g36, hF⟩ := gi_e hF
              obtain ⟨o37, eo37, hF⟩ := nx_e hF
              refine z_iast (ws' := (w_X12_four cA h_t a_t o37)) X 4 rfl g36 (by rw [eo37]; rfl) dX12_item_161 ?_
              refine z_aload_n X dX12_item_162 rfl 0 rfl ?_
              obtain ⟨o38, hc39, hF⟩ := zb1_e hF
              refine z_Vv (As := []) (rest := []) (wc := (w_X12_four cA h_t a_t o37)) (wc' := (w_X12_four cA h_t a_t o38)) (ws' := (w_X12_four cA h_t a_t o38)) X (cwV 0 X.2.2.2.2.1 gX12_item_X12_next rfl rfl rfl (by decide +kernel) (by rw [hR]; exact ⟨Nat.le_of_ble_eq_true rfl, Nat.le_of_ble_eq_true rfl⟩)) (fun sz => c_X12_next l D cA g sz h_t a_t o37 o38 hc39) [0, 1, 2, 3, 4, 5, 6, 7, 8, 9, 10, 11, 12, 13, 14, 15, 16, 17, 18, 19, 20, 21] [1000, 1001, 1002, 1003, 1004, 1005, 1006, 1007, 1008, 1009, 1010, 1011, 1012, 1013, 1014, 1015, 1016, 1017, 1018, 1019, 1020, 1021] rfl (by decide) rfl (by decide) rfl rfl rfl rfl rfl rfl (Nat.le_of_ble_eq_true rfl) dX12_item_163 ⟨Nat.zero_le _, Nat.zero_le _⟩ ?_
              refine z_aload_n X dX12_item_166 rfl 0 rfl ?_
              refine z_iconst (v := (1 : Int32)) X dX12_item_167 (by decide) ?_
              refine z_bipush (v := (20 : Int32)) X dX12_item_168 (by decide) ?_
              obtain ⟨o40, r41, hc42, hF⟩ := zb2_e hF
              refine z_Vi (As := [.int (1 : Int32), .int (20 : Int32)]) (rest := []) (wc := (w_X12_four cA h_t a_t o38)) (wc' := (w_X12_four cA h_t a_t o40)) (ws' := (w_X12_four cA h_t a_t o40)) (rv := r41) X (cwV 2 X.2.2.2.2.1 gX12_item_X12_number rfl rfl rfl (by decide +kernel) (by rw [hR]; exact ⟨Nat.le_of_ble_eq_true rfl, Nat.le_of_ble_eq_true rfl⟩)) (fun sz => c_X12_number l D cA g sz h_t a_t o38 (1 : Int32) (20 : Int32) o40 r41 hc42) [0, 1, 2, 3, 4, 5, 6, 7, 8, 9, 10, 11, 12, 13, 14, 15, 16, 17, 18, 19, 20, 21] [1000, 1001, 1002, 1003, 1004, 1005, 1006, 1007, 1008, 1009, 1010, 1011, 1012, 1013, 1014, 1015, 1016, 1017, 1018, 1019, 1020, 1021] rfl (by decide) rfl (by decide) rfl rfl rfl rfl rfl rfl (Nat.le_of_ble_eq_true rfl) dX12_item_170 ⟨Nat.zero_le _, Nat.zero_le _⟩ ?_
              have hF := if_e hF
              refine z_if_ne (tgt := 178) X dX12_item_173 (by decide) (fun c50 => ?_) (fun c50 => ?_)
              · have hF := hF.2 c50
                refine z_aload_n X dX12_item_178 rfl 0 rfl ?_
                refine z_get (v := .ref (a_t 3)) X k_X12_item_19 0 rfl rfl dX12_item_179 ?_
                refine z_bipush (v := (24 : Int32)) X dX12_item_182 (by decide) ?_
                refine z_iload_n X dX12_item_184 rfl 1 rfl ?_
                refine z_iadd X dX12_item_185 ?_
                refine z_aload_n X dX12_item_186 rfl 0 rfl ?_
                refine z_get (v := .int (o40 12 0)) X k_X12_item_110 0 rfl rfl dX12_item_187 ?_
                obtain ⟨g43, hF⟩ := gi_e hF
                obtain ⟨o44, eo44, hF⟩ := nx_e hF
                refine z_iast (ws' := (w_X12_four cA h_t a_t o44)) X 4 rfl g43 (by rw [eo44]; rfl) dX12_item_190 ?_
                refine z_aload_n X dX12_item_191 rfl 0 rfl ?_
                refine z_get (v := .ref (a_t 3)) X k_X12_item_19 0 rfl rfl dX12_item_192 ?_
                refine z_iconst (v := (2 : Int32)) X dX12_item_195 (by decide) ?_
                refine z_dup2 X dX12_item_196 rfl rfl ?_
                obtain ⟨g45, hF⟩ := gi_e hF
                refine z_iald X 4 rfl g45 dX12_item_197 ?_
                refine z_iconst (v := (1 : Int32)) X dX12_item_198 (by decide) ?_
                refine z_iadd X dX12_item_199 ?_
                obtain ⟨g46, hF⟩ := gi_e hF
                obtain ⟨o47, eo47, hF⟩ := nx_e hF
                refine z_iast (ws' := (w_X12_four cA h_t a_t o47)) X 4 rfl g46 (by rw [eo47]; rfl) dX12_item_200 ?_
                refine z_aload_n X dX12_item_201 rfl 0 rfl ?_
                obtain ⟨o48, hc49, hF⟩ := zb1_e hF
                refine z_Vv (As := []) (rest := []) (wc := (w_X12_four cA h_t a_t o47)) (wc' := (w_X12_four cA h_t a_t o48)) (ws' := (w_X12_four cA h_t a_t o48)) X (cwV 0 X.2.2.2.2.1 gX12_item_X12_next rfl rfl rfl (by decide +kernel) (by rw [hR]; exact ⟨Nat.le_of_ble_eq_true rfl, Nat.le_of_ble_eq_true rfl⟩)) (fun sz => c_X12_next l D cA g sz h_t a_t o47 o48 hc49) [0, 1, 2, 3, 4, 5, 6, 7, 8, 9, 10, 11, 12, 13, 14, 15, 16, 17, 18, 19, 20, 21] [1000, 1001, 1002, 1003, 1004, 1005, 1006, 1007, 1008, 1009, 1010, 1011, 1012, 1013, 1014, 1015, 1016, 1017, 1018, 1019, 1020, 1021] rfl (by decide) rfl (by decide) rfl rfl rfl rfl rfl rfl (Nat.le_of_ble_eq_true rfl) dX12_item_202 ⟨Nat.zero_le _, Nat.zero_le _⟩ ?_
                refine z_iconst (v := (1 : Int32)) X dX12_item_205 (by decide) ?_
                cases hF
                exact z_zret X hA hQ hr (Or.inr rfl)  rfl dX12_item_206 (Nat.le_refl _) (Nat.le_refl _)
              · have hF := hF.1 c50
                refine z_iconst (v := (0 : Int32)) X dX12_item_176 (by decide) ?_
                cases hF
                exact z_zret X hA hQ hr (Or.inl rfl)  rfl dX12_item_177 (Nat.le_refl _) (Nat.le_refl _)
            · have hF := hF.1 c51
              refine z_iconst (v := (0 : Int32)) X dX12_item_147 (by decide) ?_
              cases hF
              exact z_zret X hA hQ hr (Or.inl rfl)  rfl dX12_item_148 (Nat.le_refl _) (Nat.le_refl _)
          · have hF := hF.1 c52
            refine z_iconst (v := (0 : Int32)) X dX12_item_118 (by decide) ?_
            cases hF
            exact z_zret X hA hQ hr (Or.inl rfl)  rfl dX12_item_119 (Nat.le_refl _) (Nat.le_refl _)
        obtain ⟨B64, hBB64, hL⟩ := zl2_b hL
        have L53 : ∀ (n : Nat) (o21 : Ob) (k22 : Int32), zl2 B64 n o21 k22 = some o23 → ZW p l e R s m args below meth c D A 3 0 0 Q (w_X12_four cA h_t a_t o21) [(0, .ref h_t), (1, .int x9), (2, .int k22)] 60 [] := by
          intro n
          induction n with
          | zero => intro o21 k22 hL; cases hL
          | succ n ih =>
            intro o21 k22 hL
            obtain ⟨zz54, hF, hL⟩ := zl2_e hL
            rw [hBB64] at hF
            refine z_iload_n X dX12_item_60 rfl 2 rfl ?_
            refine z_bipush (v := (6 : Int32)) X dX12_item_61 (by decide) ?_
            have hF := if_e hF
            refine z_icmp_ge (tgt := 104) X dX12_item_63 (by decide) (fun c63 => ?_) (fun c63 => ?_)
            · have hF := hF.1 c63
              cases hF
              have hL := Option.some.inj hL
              refine z_lv (lv' := [(0, .ref h_t), (1, .int x9)]) [0, 1] rfl ?_
              exact L53_x o21 hL
            · have hF := hF.2 c63
              refine z_aload_n X dX12_item_66 rfl 0 rfl ?_
              refine z_get (v := .ref (a_t 3)) X k_X12_item_19 0 rfl rfl dX12_item_67 ?_
              refine z_bipush (v := (56 : Int32)) X dX12_item_70 (by decide) ?_
              refine z_bipush (v := (6 : Int32)) X dX12_item_72 (by decide) ?_
              refine z_iload_n X dX12_item_74 rfl 1 rfl ?_
              refine z_imul X dX12_item_75 ?_
              refine z_iadd X dX12_item_76 ?_
              refine z_iload_n X dX12_item_77 rfl 2 rfl ?_
              refine z_iadd X dX12_item_78 ?_
              refine z_iload_n X dX12_item_79 rfl 2 rfl ?_
              refine z_aload_n X dX12_item_80 rfl 0 rfl ?_
              refine z_get (v := .int (o21 16 0)) X k_X12_item_123 0 rfl rfl dX12_item_81 ?_
              have hF := if_e hF
              refine z_icmp_ge (tgt := 96) X dX12_item_84 (by decide) (fun c62 => ?_) (fun c62 => ?_)
              · have hF := hF.1 c62
                refine z_iconst (v := (0 : Int32)) X dX12_item_96 (by decide) ?_
                obtain ⟨g55, hF⟩ := gi_e hF
                obtain ⟨o56, eo56, hF⟩ := nx_e hF
                refine z_iast (ws' := (w_X12_four cA h_t a_t o56)) X 4 rfl g55 (by rw [eo56]; rfl) dX12_item_97 ?_
                obtain ⟨x57, ex57, hF⟩ := nx_e hF
                refine z_iinc (v := x57) (lv' := [(2, .int x57), (0, .ref h_t), (1, .int x9)]) (j := 2) X dX12_item_98 rfl (by rw [ex57]; rfl) (by decide) rfl ?_
                refine z_goto (tgt := 60) X dX12_item_101 (by decide) ?_
                cases hF
                refine z_lv (lv' := [(0, .ref h_t), (1, .int x9), (2, .int x57)]) [1, 2, 0] rfl ?_
                exact ih o56 x57 hL
              · have hF := hF.2 c62
                refine z_aload_n X dX12_item_87 rfl 0 rfl ?_
                refine z_get (v := .ref (a_t 15)) X k_X12_item_30 0 rfl rfl dX12_item_88 ?_
                refine z_iload_n X dX12_item_91 rfl 2 rfl ?_
                obtain ⟨g58, hF⟩ := gi_e hF
                refine z_bald X 7 rfl g58 dX12_item_92 ?_
                refine z_goto (tgt := 97) X dX12_item_93 (by decide) ?_
                obtain ⟨g59, hF⟩ := gi_e hF
                obtain ⟨o60, eo60, hF⟩ := nx_e hF
                refine z_iast (ws' := (w_X12_four cA h_t a_t o60)) X 4 rfl g59 (by rw [eo60]; rfl) dX12_item_97 ?_
                obtain ⟨x61, ex61, hF⟩ := nx_e hF
                refine z_iinc (v := x61) (lv' := [(2, .int x61), (0, .ref h_t), (1, .int x9)]) (j := 2) X dX12_item_98 rfl (by rw [ex61]; rfl) (by decide) rfl ?_
                refine z_goto (tgt := 60) X dX12_item_101 (by decide) ?_
                cases hF
                refine z_lv (lv' := [(0, .ref h_t), (1, .int x9), (2, .int x61)]) [1, 2, 0] rfl ?_
                exact ih o60 x61 hL
        refine z_lv (lv' := [(0, .ref h_t), (1, .int x9), (2, .int (0 : Int32))]) [2, 1, 0] rfl ?_
        exact L53 FU o2 (0 : Int32) hL
      · have hF := hF.2 c69
        refine z_aload_n X dX12_item_45 rfl 0 rfl ?_
        refine z_iconst (v := (3 : Int32)) X dX12_item_46 (by decide) ?_
        obtain ⟨o65, r66, hc67, hF⟩ := zb2_e hF
        refine z_Vi (As := [.int (3 : Int32)]) (rest := []) (wc := (w_X12_four cA h_t a_t o2)) (wc' := (w_X12_four cA h_t a_t o65)) (ws' := (w_X12_four cA h_t a_t o65)) (rv := r66) X (cwV 1 X.2.2.2.2.1 gX12_item_X12_badHere rfl rfl rfl (by decide +kernel) (by rw [hR]; exact ⟨Nat.le_of_ble_eq_true rfl, Nat.le_of_ble_eq_true rfl⟩)) (fun sz => c_X12_badHere l D cA g sz h_t a_t o2 (3 : Int32) o65 r66 hc67) [0, 1, 2, 3, 4, 5, 6, 7, 8, 9, 10, 11, 12, 13, 14, 15, 16, 17, 18, 19, 20, 21] [1000, 1001, 1002, 1003, 1004, 1005, 1006, 1007, 1008, 1009, 1010, 1011, 1012, 1013, 1014, 1015, 1016, 1017, 1018, 1019, 1020, 1021] rfl (by decide) rfl (by decide) rfl rfl rfl rfl rfl rfl (Nat.le_of_ble_eq_true rfl) dX12_item_47 ⟨Nat.zero_le _, Nat.zero_le _⟩ ?_
        obtain ⟨g68, hF⟩ := gz_e hF
        cases hF
        exact z_zret X hA hQ hr g68  rfl dX12_item_50 (Nat.le_refl _) (Nat.le_refl _)
    · have hF := hF.1 c74
      refine z_aload_n X dX12_item_28 rfl 0 rfl ?_
      refine z_iconst (v := (1 : Int32)) X dX12_item_29 (by decide) ?_
      obtain ⟨o70, r71, hc72, hF⟩ := zb2_e hF
      refine z_Vi (As := [.int (1 : Int32)]) (rest := []) (wc := (w_X12_four cA h_t a_t o2)) (wc' := (w_X12_four cA h_t a_t o70)) (ws' := (w_X12_four cA h_t a_t o70)) (rv := r71) X (cwV 1 X.2.2.2.2.1 gX12_item_X12_badHere rfl rfl rfl (by decide +kernel) (by rw [hR]; exact ⟨Nat.le_of_ble_eq_true rfl, Nat.le_of_ble_eq_true rfl⟩)) (fun sz => c_X12_badHere l D cA g sz h_t a_t o2 (1 : Int32) o70 r71 hc72) [0, 1, 2, 3, 4, 5, 6, 7, 8, 9, 10, 11, 12, 13, 14, 15, 16, 17, 18, 19, 20, 21] [1000, 1001, 1002, 1003, 1004, 1005, 1006, 1007, 1008, 1009, 1010, 1011, 1012, 1013, 1014, 1015, 1016, 1017, 1018, 1019, 1020, 1021] rfl (by decide) rfl (by decide) rfl rfl rfl rfl rfl rfl (Nat.le_of_ble_eq_true rfl) dX12_item_30 ⟨Nat.zero_le _, Nat.zero_le _⟩ ?_
      obtain ⟨g73, hF⟩ := gz_e hF
      cases hF
      exact z_zret X hA hQ hr g73  rfl dX12_item_33 (Nat.le_refl _) (Nat.le_refl _)
  · have hF := hF.1 c79
    refine z_aload_n X dX12_item_11 rfl 0 rfl ?_
    refine z_iconst (v := (4 : Int32)) X dX12_item_12 (by decide) ?_
    obtain ⟨o75, r76, hc77, hF⟩ := zb2_e hF
    refine z_Vi (As := [.int (4 : Int32)]) (rest := []) (wc := (w_X12_four cA h_t a_t o_t)) (wc' := (w_X12_four cA h_t a_t o75)) (ws' := (w_X12_four cA h_t a_t o75)) (rv := r76) X (cwV 1 X.2.2.2.2.1 gX12_item_X12_badHere rfl rfl rfl (by decide +kernel) (by rw [hR]; exact ⟨Nat.le_of_ble_eq_true rfl, Nat.le_of_ble_eq_true rfl⟩)) (fun sz => c_X12_badHere l D cA g sz h_t a_t o_t (4 : Int32) o75 r76 hc77) [0, 1, 2, 3, 4, 5, 6, 7, 8, 9, 10, 11, 12, 13, 14, 15, 16, 17, 18, 19, 20, 21] [1000, 1001, 1002, 1003, 1004, 1005, 1006, 1007, 1008, 1009, 1010, 1011, 1012, 1013, 1014, 1015, 1016, 1017, 1018, 1019, 1020, 1021] rfl (by decide) rfl (by decide) rfl rfl rfl rfl rfl rfl (Nat.le_of_ble_eq_true rfl) dX12_item_13 ⟨Nat.zero_le _, Nat.zero_le _⟩ ?_
    obtain ⟨g78, hF⟩ := gz_e hF
    cases hF
    exact z_zret X hA hQ hr g78  rfl dX12_item_16 (Nat.le_refl _) (Nat.le_refl _)
set_option maxRecDepth 20000 in
theorem h_X12_roomLine_X12 : ∀ w ∈ wsX120, w ∈ wsX12_roomLine := by decide +kernel
set_option maxRecDepth 20000 in
theorem k_X12_roomLine_19 : ZF wsX12_roomLine RX12 19 12 3 RX12 TX12 47 := ⟨rfl, by decide, h_X12_roomLine_X12, by decide +kernel⟩
set_option maxRecDepth 20000 in
theorem k_X12_roomLine_110 : ZF wsX12_roomLine RX12 110 12 12 RX12 TX12 47 := ⟨rfl, by decide, h_X12_roomLine_X12, by decide +kernel⟩
set_option maxRecDepth 20000 in
theorem k_X12_roomLine_149 : ZF wsX12_roomLine RX12 149 12 17 RX12 TX12 47 := ⟨rfl, by decide, h_X12_roomLine_X12, by decide +kernel⟩
set_option maxHeartbeats 8000000 in
set_option maxRecDepth 100000 in
theorem c_X12_roomLine (l : Launch) (D : va_G) (cA : Nat → ClassId) (g : Nat → Nat) (sz : Nat) (h_t : Nat) (a_t : Nat → Nat) (o_t : Ob)  (o_t' : Ob) (rv : Int32) (hF : f_X12_roomLine o_t = some (o_t', rv)) : Met l yX12_roomLine wsX12_roomLine ({ frames := 3, cells := 0, slots := 0, locals := 65 }) (va_Pc [.ref h_t] (PreW D cA g sz (w_X12_four cA h_t a_t o_t))) (va_Qi (fun (r : Int32) (_ : Unit) => r = rv) (PostW D cA sz (w_X12_four cA h_t a_t o_t) (w_X12_four cA h_t a_t o_t')) (va_A (w_X12_four cA h_t a_t o_t) sz)) 0 0 (va_A (w_X12_four cA h_t a_t o_t) sz) := by
  refine z_start (cc := cX12_roomLine) (maxL := 1) (ret := (some .boolean)) (lv0 := [(0, .ref h_t)]) (Qc := fun sz => va_Qi (fun (r : Int32) (_ : Unit) => r = rv) (PostW D cA sz (w_X12_four cA h_t a_t o_t) (w_X12_four cA h_t a_t o_t')) (va_A (w_X12_four cA h_t a_t o_t) sz)) (free := fun sz => va_A (w_X12_four cA h_t a_t o_t) sz) (by decide +kernel) rfl rfl (Nat.le_of_ble_eq_true rfl) ?_
  intro p e R s m args below meth c A Q hR hA hQ X hr hin
  unfold f_X12_roomLine at hF
  refine z_aload_n X dX12_roomLine_0 rfl 0 rfl ?_
  refine z_get (v := .int (o_t 17 0)) X k_X12_roomLine_149 0 rfl rfl dX12_roomLine_1 ?_
  have hF := if_e hF
  refine z_if_eq (tgt := 13) X dX12_roomLine_4 (by decide) (fun c16 => ?_) (fun c16 => ?_)
  · have hF := hF.1 c16
    refine z_aload_n X dX12_roomLine_13 rfl 0 rfl ?_
    refine z_iconst (v := (1 : Int32)) X dX12_roomLine_14 (by decide) ?_
    obtain ⟨o1, eo1, hF⟩ := nx_e hF
    refine z_putZ (ws' := (w_X12_four cA h_t a_t o1)) X k_X12_roomLine_149 tyX12 tyX12_ok nmX12 rfl rfl 0 rfl (Nat.le_of_ble_eq_true rfl) (by rw [eo1]; rfl) (Or.inr rfl) dX12_roomLine_15 ?_
    refine z_aload_n X dX12_roomLine_18 rfl 0 rfl ?_
    obtain ⟨o2, hc3, hF⟩ := zb1_e hF
    refine z_Vv (As := []) (rest := []) (wc := (w_X12_four cA h_t a_t o1)) (wc' := (w_X12_four cA h_t a_t o2)) (ws' := (w_X12_four cA h_t a_t o2)) X (cwV 0 X.2.2.2.2.1 gX12_roomLine_X12_next rfl rfl rfl (by decide +kernel) (by rw [hR]; exact ⟨Nat.le_of_ble_eq_true rfl, Nat.le_of_ble_eq_true rfl⟩)) (fun sz => c_X12_next l D cA g sz h_t a_t o1 o2 hc3) [0, 1, 2, 3, 4, 5, 6, 7, 8, 9, 10, 11, 12, 13, 14, 15, 16, 17, 18, 19, 20, 21] [1000, 1001, 1002, 1003, 1004, 1005, 1006, 1007, 1008, 1009, 1010, 1011, 1012, 1013, 1014, 1015, 1016, 1017, 1018, 1019, 1020, 1021] rfl (by decide) rfl (by decide) rfl rfl rfl rfl rfl rfl (Nat.le_of_ble_eq_true rfl) dX12_roomLine_19 ⟨Nat.zero_le _, Nat.zero_le _⟩ ?_
    refine z_aload_n X dX12_roomLine_22 rfl 0 rfl ?_
    refine z_iconst (v := (1 : Int32)) X dX12_roomLine_23 (by decide) ?_
    refine z_bipush (v := (20 : Int32)) X dX12_roomLine_24 (by decide) ?_
    obtain ⟨o4, r5, hc6, hF⟩ := zb2_e hF
    refine z_Vi (As := [.int (1 : Int32), .int (20 : Int32)]) (rest := []) (wc := (w_X12_four cA h_t a_t o2)) (wc' := (w_X12_four cA h_t a_t o4)) (ws' := (w_X12_four cA h_t a_t o4)) (rv := r5) X (cwV 2 X.2.2.2.2.1 gX12_roomLine_X12_number rfl rfl rfl (by decide +kernel) (by rw [hR]; exact ⟨Nat.le_of_ble_eq_true rfl, Nat.le_of_ble_eq_true rfl⟩)) (fun sz => c_X12_number l D cA g sz h_t a_t o2 (1 : Int32) (20 : Int32) o4 r5 hc6) [0, 1, 2, 3, 4, 5, 6, 7, 8, 9, 10, 11, 12, 13, 14, 15, 16, 17, 18, 19, 20, 21] [1000, 1001, 1002, 1003, 1004, 1005, 1006, 1007, 1008, 1009, 1010, 1011, 1012, 1013, 1014, 1015, 1016, 1017, 1018, 1019, 1020, 1021] rfl (by decide) rfl (by decide) rfl rfl rfl rfl rfl rfl (Nat.le_of_ble_eq_true rfl) dX12_roomLine_26 ⟨Nat.zero_le _, Nat.zero_le _⟩ ?_
    have hF := if_e hF
    refine z_if_ne (tgt := 34) X dX12_roomLine_29 (by decide) (fun c11 => ?_) (fun c11 => ?_)
    · have hF := hF.2 c11
      refine z_aload_n X dX12_roomLine_34 rfl 0 rfl ?_
      refine z_get (v := .ref (a_t 3)) X k_X12_roomLine_19 0 rfl rfl dX12_roomLine_35 ?_
      refine z_iconst (v := (0 : Int32)) X dX12_roomLine_38 (by decide) ?_
      refine z_aload_n X dX12_roomLine_39 rfl 0 rfl ?_
      refine z_get (v := .int (o4 12 0)) X k_X12_roomLine_110 0 rfl rfl dX12_roomLine_40 ?_
      obtain ⟨g7, hF⟩ := gi_e hF
      obtain ⟨o8, eo8, hF⟩ := nx_e hF
      refine z_iast (ws' := (w_X12_four cA h_t a_t o8)) X 4 rfl g7 (by rw [eo8]; rfl) dX12_roomLine_43 ?_
      refine z_aload_n X dX12_roomLine_44 rfl 0 rfl ?_
      obtain ⟨o9, hc10, hF⟩ := zb1_e hF
      refine z_Vv (As := []) (rest := []) (wc := (w_X12_four cA h_t a_t o8)) (wc' := (w_X12_four cA h_t a_t o9)) (ws' := (w_X12_four cA h_t a_t o9)) X (cwV 0 X.2.2.2.2.1 gX12_roomLine_X12_next rfl rfl rfl (by decide +kernel) (by rw [hR]; exact ⟨Nat.le_of_ble_eq_true rfl, Nat.le_of_ble_eq_true rfl⟩)) (fun sz => c_X12_next l D cA g sz h_t a_t o8 o9 hc10) [0, 1, 2, 3, 4, 5, 6, 7, 8, 9, 10, 11, 12, 13, 14, 15, 16, 17, 18, 19, 20, 21] [1000, 1001, 1002, 1003, 1004, 1005, 1006, 1007, 1008, 1009, 1010, 1011, 1012, 1013, 1014, 1015, 1016, 1017, 1018, 1019, 1020, 1021] rfl (by decide) rfl (by decide) rfl rfl rfl rfl rfl rfl (Nat.le_of_ble_eq_true rfl) dX12_roomLine_45 ⟨Nat.zero_le _, Nat.zero_le _⟩ ?_
      refine z_iconst (v := (1 : Int32)) X dX12_roomLine_48 (by decide) ?_
      cases hF
      exact z_zret X hA hQ hr (Or.inr rfl)  rfl dX12_roomLine_49 (Nat.le_refl _) (Nat.le_refl _)
    · have hF := hF.1 c11
      refine z_iconst (v := (0 : Int32)) X dX12_roomLine_32 (by decide) ?_
      cases hF
      exact z_zret X hA hQ hr (Or.inl rfl)  rfl dX12_roomLine_33 (Nat.le_refl _) (Nat.le_refl _)
  · have hF := hF.2 c16
    refine z_aload_n X dX12_roomLine_7 rfl 0 rfl ?_
    refine z_iconst (v := (3 : Int32)) X dX12_roomLine_8 (by decide) ?_
    obtain ⟨o12, r13, hc14, hF⟩ := zb2_e hF
    refine z_Vi (As := [.int (3 : Int32)]) (rest := []) (wc := (w_X12_four cA h_t a_t o_t)) (wc' := (w_X12_four cA h_t a_t o12)) (ws' := (w_X12_four cA h_t a_t o12)) (rv := r13) X (cwV 1 X.2.2.2.2.1 gX12_roomLine_X12_badHere rfl rfl rfl (by decide +kernel) (by rw [hR]; exact ⟨Nat.le_of_ble_eq_true rfl, Nat.le_of_ble_eq_true rfl⟩)) (fun sz => c_X12_badHere l D cA g sz h_t a_t o_t (3 : Int32) o12 r13 hc14) [0, 1, 2, 3, 4, 5, 6, 7, 8, 9, 10, 11, 12, 13, 14, 15, 16, 17, 18, 19, 20, 21] [1000, 1001, 1002, 1003, 1004, 1005, 1006, 1007, 1008, 1009, 1010, 1011, 1012, 1013, 1014, 1015, 1016, 1017, 1018, 1019, 1020, 1021] rfl (by decide) rfl (by decide) rfl rfl rfl rfl rfl rfl (Nat.le_of_ble_eq_true rfl) dX12_roomLine_9 ⟨Nat.zero_le _, Nat.zero_le _⟩ ?_
    obtain ⟨g15, hF⟩ := gz_e hF
    cases hF
    exact z_zret X hA hQ hr g15  rfl dX12_roomLine_12 (Nat.le_refl _) (Nat.le_refl _)
set_option maxRecDepth 20000 in
theorem h_X12_ruleLine_X12 : ∀ w ∈ wsX120, w ∈ wsX12_ruleLine := by decide +kernel
set_option maxRecDepth 20000 in
theorem k_X12_ruleLine_19 : ZF wsX12_ruleLine RX12 19 12 3 RX12 TX12 47 := ⟨rfl, by decide, h_X12_ruleLine_X12, by decide +kernel⟩
set_option maxRecDepth 20000 in
theorem k_X12_ruleLine_153 : ZF wsX12_ruleLine RX12 153 12 18 RX12 TX12 47 := ⟨rfl, by decide, h_X12_ruleLine_X12, by decide +kernel⟩
set_option maxHeartbeats 8000000 in
set_option maxRecDepth 100000 in
theorem c_X12_ruleLine (l : Launch) (D : va_G) (cA : Nat → ClassId) (g : Nat → Nat) (sz : Nat) (h_t : Nat) (a_t : Nat → Nat) (o_t : Ob)  (o_t' : Ob) (rv : Int32) (hF : f_X12_ruleLine o_t = some (o_t', rv)) : Met l yX12_ruleLine wsX12_ruleLine ({ frames := 3, cells := 0, slots := 0, locals := 65 }) (va_Pc [.ref h_t] (PreW D cA g sz (w_X12_four cA h_t a_t o_t))) (va_Qi (fun (r : Int32) (_ : Unit) => r = rv) (PostW D cA sz (w_X12_four cA h_t a_t o_t) (w_X12_four cA h_t a_t o_t')) (va_A (w_X12_four cA h_t a_t o_t) sz)) 0 0 (va_A (w_X12_four cA h_t a_t o_t) sz) := by
  refine z_start (cc := cX12_ruleLine) (maxL := 2) (ret := (some .boolean)) (lv0 := [(0, .ref h_t)]) (Qc := fun sz => va_Qi (fun (r : Int32) (_ : Unit) => r = rv) (PostW D cA sz (w_X12_four cA h_t a_t o_t) (w_X12_four cA h_t a_t o_t')) (va_A (w_X12_four cA h_t a_t o_t) sz)) (free := fun sz => va_A (w_X12_four cA h_t a_t o_t) sz) (by decide +kernel) rfl rfl (Nat.le_of_ble_eq_true rfl) ?_
  intro p e R s m args below meth c A Q hR hA hQ X hr hin
  unfold f_X12_ruleLine at hF
  refine z_aload_n X dX12_ruleLine_0 rfl 0 rfl ?_
  refine z_get (v := .int (o_t 18 0)) X k_X12_ruleLine_153 0 rfl rfl dX12_ruleLine_1 ?_
  have hF := if_e hF
  refine z_if_eq (tgt := 13) X dX12_ruleLine_4 (by decide) (fun c34 => ?_) (fun c34 => ?_)
  · have hF := hF.1 c34
    refine z_aload_n X dX12_ruleLine_13 rfl 0 rfl ?_
    refine z_iconst (v := (1 : Int32)) X dX12_ruleLine_14 (by decide) ?_
    obtain ⟨o1, eo1, hF⟩ := nx_e hF
    refine z_putZ (ws' := (w_X12_four cA h_t a_t o1)) X k_X12_ruleLine_153 tyX12 tyX12_ok nmX12 rfl rfl 0 rfl (Nat.le_of_ble_eq_true rfl) (by rw [eo1]; rfl) (Or.inr rfl) dX12_ruleLine_15 ?_
    refine z_aload_n X dX12_ruleLine_18 rfl 0 rfl ?_
    obtain ⟨o2, hc3, hF⟩ := zb1_e hF
    refine z_Vv (As := []) (rest := []) (wc := (w_X12_four cA h_t a_t o1)) (wc' := (w_X12_four cA h_t a_t o2)) (ws' := (w_X12_four cA h_t a_t o2)) X (cwV 0 X.2.2.2.2.1 gX12_ruleLine_X12_next rfl rfl rfl (by decide +kernel) (by rw [hR]; exact ⟨Nat.le_of_ble_eq_true rfl, Nat.le_of_ble_eq_true rfl⟩)) (fun sz => c_X12_next l D cA g sz h_t a_t o1 o2 hc3) [0, 1, 2, 3, 4, 5, 6, 7, 8, 9, 10, 11, 12, 13, 14, 15, 16, 17, 18, 19, 20, 21] [1000, 1001, 1002, 1003, 1004, 1005, 1006, 1007, 1008, 1009, 1010, 1011, 1012, 1013, 1014, 1015, 1016, 1017, 1018, 1019, 1020, 1021] rfl (by decide) rfl (by decide) rfl rfl rfl rfl rfl rfl (Nat.le_of_ble_eq_true rfl) dX12_ruleLine_19 ⟨Nat.zero_le _, Nat.zero_le _⟩ ?_
    refine z_iconst (v := (4 : Int32)) X dX12_ruleLine_22 (by decide) ?_
    refine z_istore_n (lv' := [(1, .int (4 : Int32)), (0, .ref h_t)]) X dX12_ruleLine_23 rfl (by decide) rfl ?_
    obtain ⟨k12, hL, hF⟩ := zb1_e hF
    have L22_x : ∀ (k12' : Int32), k12' = k12 → ZW p l e R s m args below meth c D A 2 0 0 Q (w_X12_four cA h_t a_t o2) [(0, .ref h_t), (1, .int k12')] 44 [] := by
      intro k12' hz
      cases hz
      refine z_iload_n X dX12_ruleLine_44 rfl 1 rfl ?_
      refine z_bipush (v := (7 : Int32)) X dX12_ruleLine_45 (by decide) ?_
      have hF := if_e hF
      refine z_icmp_ne (tgt := 56) X dX12_ruleLine_47 (by decide) (fun c21 => ?_) (fun c21 => ?_)
      · have hF := hF.2 c21
        refine z_aload_n X dX12_ruleLine_56 rfl 0 rfl ?_
        refine z_get (v := .ref (a_t 3)) X k_X12_ruleLine_19 0 rfl rfl dX12_ruleLine_57 ?_
        refine z_iconst (v := (1 : Int32)) X dX12_ruleLine_60 (by decide) ?_
        refine z_iload_n X dX12_ruleLine_61 rfl 1 rfl ?_
        refine z_iconst (v := (4 : Int32)) X dX12_ruleLine_62 (by decide) ?_
        refine z_isub X dX12_ruleLine_63 ?_
        obtain ⟨g13, hF⟩ := gi_e hF
        obtain ⟨o14, eo14, hF⟩ := nx_e hF
        refine z_iast (ws' := (w_X12_four cA h_t a_t o14)) X 4 rfl g13 (by rw [eo14]; rfl) dX12_ruleLine_64 ?_
        refine z_aload_n X dX12_ruleLine_65 rfl 0 rfl ?_
        obtain ⟨o15, hc16, hF⟩ := zb1_e hF
        refine z_Vv (As := []) (rest := []) (wc := (w_X12_four cA h_t a_t o14)) (wc' := (w_X12_four cA h_t a_t o15)) (ws' := (w_X12_four cA h_t a_t o15)) X (cwV 0 X.2.2.2.2.1 gX12_ruleLine_X12_next rfl rfl rfl (by decide +kernel) (by rw [hR]; exact ⟨Nat.le_of_ble_eq_true rfl, Nat.le_of_ble_eq_true rfl⟩)) (fun sz => c_X12_next l D cA g sz h_t a_t o14 o15 hc16) [0, 1, 2, 3, 4, 5, 6, 7, 8, 9, 10, 11, 12, 13, 14, 15, 16, 17, 18, 19, 20, 21] [1000, 1001, 1002, 1003, 1004, 1005, 1006, 1007, 1008, 1009, 1010, 1011, 1012, 1013, 1014, 1015, 1016, 1017, 1018, 1019, 1020, 1021] rfl (by decide) rfl (by decide) rfl rfl rfl rfl rfl rfl (Nat.le_of_ble_eq_true rfl) dX12_ruleLine_66 ⟨Nat.zero_le _, Nat.zero_le _⟩ ?_
        refine z_iconst (v := (1 : Int32)) X dX12_ruleLine_69 (by decide) ?_
        cases hF
        exact z_zret X hA hQ hr (Or.inr rfl)  rfl dX12_ruleLine_70 (Nat.le_refl _) (Nat.le_refl _)
      · have hF := hF.1 c21
        refine z_aload_n X dX12_ruleLine_50 rfl 0 rfl ?_
        refine z_iconst (v := (1 : Int32)) X dX12_ruleLine_51 (by decide) ?_
        obtain ⟨o17, r18, hc19, hF⟩ := zb2_e hF
        refine z_Vi (As := [.int (1 : Int32)]) (rest := []) (wc := (w_X12_four cA h_t a_t o2)) (wc' := (w_X12_four cA h_t a_t o17)) (ws' := (w_X12_four cA h_t a_t o17)) (rv := r18) X (cwV 1 X.2.2.2.2.1 gX12_ruleLine_X12_badHere rfl rfl rfl (by decide +kernel) (by rw [hR]; exact ⟨Nat.le_of_ble_eq_true rfl, Nat.le_of_ble_eq_true rfl⟩)) (fun sz => c_X12_badHere l D cA g sz h_t a_t o2 (1 : Int32) o17 r18 hc19) [0, 1, 2, 3, 4, 5, 6, 7, 8, 9, 10, 11, 12, 13, 14, 15, 16, 17, 18, 19, 20, 21] [1000, 1001, 1002, 1003, 1004, 1005, 1006, 1007, 1008, 1009, 1010, 1011, 1012, 1013, 1014, 1015, 1016, 1017, 1018, 1019, 1020, 1021] rfl (by decide) rfl (by decide) rfl rfl rfl rfl rfl rfl (Nat.le_of_ble_eq_true rfl) dX12_ruleLine_52 ⟨Nat.zero_le _, Nat.zero_le _⟩ ?_
        obtain ⟨g20, hF⟩ := gz_e hF
        cases hF
        exact z_zret X hA hQ hr g20  rfl dX12_ruleLine_55 (Nat.le_refl _) (Nat.le_refl _)
    obtain ⟨B29, hBB29, hL⟩ := zl1_b hL
    have L22 : ∀ (n : Nat) (k11 : Int32), zl1 B29 n k11 = some k12 → ZW p l e R s m args below meth c D A 2 0 0 Q (w_X12_four cA h_t a_t o2) [(0, .ref h_t), (1, .int k11)] 24 [] := by
      intro n
      induction n with
      | zero => intro k11 hL; cases hL
      | succ n ih =>
        intro k11 hL
        obtain ⟨zz23, hF, hL⟩ := zl1_e hL
        rw [hBB29] at hF
        refine z_iload_n X dX12_ruleLine_24 rfl 1 rfl ?_
        refine z_bipush (v := (7 : Int32)) X dX12_ruleLine_25 (by decide) ?_
        have hF := if_e hF
        refine z_icmp_ge (tgt := 44) X dX12_ruleLine_27 (by decide) (fun c28 => ?_) (fun c28 => ?_)
        · have hF := hF.1 c28
          cases hF
          have hL := Option.some.inj hL
          refine z_lv (lv' := [(0, .ref h_t), (1, .int k11)]) [0, 1] rfl ?_
          exact L22_x k11 hL
        · have hF := hF.2 c28
          refine z_aload_n X dX12_ruleLine_30 rfl 0 rfl ?_
          refine z_iload_n X dX12_ruleLine_31 rfl 1 rfl ?_
          obtain ⟨r24, hc25, hF⟩ := zb1_e hF
          refine z_Vi (As := [.int k11]) (rest := []) (wc := (w_X12_four cA h_t a_t o2)) (wc' := (w_X12_four cA h_t a_t o2)) (ws' := (w_X12_four cA h_t a_t o2)) (rv := r24) X (cwV 1 X.2.2.2.2.1 gX12_ruleLine_X12_isKnown rfl rfl rfl (by decide +kernel) (by rw [hR]; exact ⟨Nat.le_of_ble_eq_true rfl, Nat.le_of_ble_eq_true rfl⟩)) (fun sz => c_X12_isKnown l D cA g sz h_t a_t o2 k11 r24 hc25) [0, 1, 2, 3, 4, 5, 6, 7, 8, 9, 10, 11, 12, 13, 14, 15, 16, 17, 18, 19, 20, 21] [1000, 1001, 1002, 1003, 1004, 1005, 1006, 1007, 1008, 1009, 1010, 1011, 1012, 1013, 1014, 1015, 1016, 1017, 1018, 1019, 1020, 1021] rfl (by decide) rfl (by decide) rfl rfl rfl rfl rfl rfl (Nat.le_of_ble_eq_true rfl) dX12_ruleLine_32 ⟨Nat.zero_le _, Nat.zero_le _⟩ ?_
          have hF := if_e hF
          refine z_if_ne (tgt := 44) X dX12_ruleLine_35 (by decide) (fun c27 => ?_) (fun c27 => ?_)
          · have hF := hF.2 c27
            cases hF
            have hL := Option.some.inj hL
            refine z_lv (lv' := [(0, .ref h_t), (1, .int k11)]) [0, 1] rfl ?_
            exact L22_x k11 hL
          · have hF := hF.1 c27
            obtain ⟨x26, ex26, hF⟩ := nx_e hF
            refine z_iinc (v := x26) (lv' := [(1, .int x26), (0, .ref h_t)]) (j := 1) X dX12_ruleLine_38 rfl (by rw [ex26]; rfl) (by decide) rfl ?_
            refine z_goto (tgt := 24) X dX12_ruleLine_41 (by decide) ?_
            cases hF
            refine z_lv (lv' := [(0, .ref h_t), (1, .int x26)]) [1, 0] rfl ?_
            exact ih x26 hL
    refine z_lv (lv' := [(0, .ref h_t), (1, .int (4 : Int32))]) [1, 0] rfl ?_
    exact L22 FU (4 : Int32) hL
  · have hF := hF.2 c34
    refine z_aload_n X dX12_ruleLine_7 rfl 0 rfl ?_
    refine z_iconst (v := (3 : Int32)) X dX12_ruleLine_8 (by decide) ?_
    obtain ⟨o30, r31, hc32, hF⟩ := zb2_e hF
    refine z_Vi (As := [.int (3 : Int32)]) (rest := []) (wc := (w_X12_four cA h_t a_t o_t)) (wc' := (w_X12_four cA h_t a_t o30)) (ws' := (w_X12_four cA h_t a_t o30)) (rv := r31) X (cwV 1 X.2.2.2.2.1 gX12_ruleLine_X12_badHere rfl rfl rfl (by decide +kernel) (by rw [hR]; exact ⟨Nat.le_of_ble_eq_true rfl, Nat.le_of_ble_eq_true rfl⟩)) (fun sz => c_X12_badHere l D cA g sz h_t a_t o_t (3 : Int32) o30 r31 hc32) [0, 1, 2, 3, 4, 5, 6, 7, 8, 9, 10, 11, 12, 13, 14, 15, 16, 17, 18, 19, 20, 21] [1000, 1001, 1002, 1003, 1004, 1005, 1006, 1007, 1008, 1009, 1010, 1011, 1012, 1013, 1014, 1015, 1016, 1017, 1018, 1019, 1020, 1021] rfl (by decide) rfl (by decide) rfl rfl rfl rfl rfl rfl (Nat.le_of_ble_eq_true rfl) dX12_ruleLine_9 ⟨Nat.zero_le _, Nat.zero_le _⟩ ?_
    obtain ⟨g33, hF⟩ := gz_e hF
    cases hF
    exact z_zret X hA hQ hr g33  rfl dX12_ruleLine_12 (Nat.le_refl _) (Nat.le_refl _)
set_option maxHeartbeats 8000000 in
set_option maxRecDepth 100000 in
theorem c_X12_readsLine (l : Launch) (D : va_G) (cA : Nat → ClassId) (g : Nat → Nat) (sz : Nat) (h_t : Nat) (a_t : Nat → Nat) (o_t : Ob)  (o_t' : Ob) (rv : Int32) (hF : f_X12_readsLine o_t = some (o_t', rv)) : Met l yX12_readsLine wsX12_readsLine ({ frames := 4, cells := 0, slots := 0, locals := 87 }) (va_Pc [.ref h_t] (PreW D cA g sz (w_X12_four cA h_t a_t o_t))) (va_Qi (fun (r : Int32) (_ : Unit) => r = rv) (PostW D cA sz (w_X12_four cA h_t a_t o_t) (w_X12_four cA h_t a_t o_t')) (va_A (w_X12_four cA h_t a_t o_t) sz)) 0 0 (va_A (w_X12_four cA h_t a_t o_t) sz) := by
  refine z_start (cc := cX12_readsLine) (maxL := 2) (ret := (some .boolean)) (lv0 := [(0, .ref h_t)]) (Qc := fun sz => va_Qi (fun (r : Int32) (_ : Unit) => r = rv) (PostW D cA sz (w_X12_four cA h_t a_t o_t) (w_X12_four cA h_t a_t o_t')) (va_A (w_X12_four cA h_t a_t o_t) sz)) (free := fun sz => va_A (w_X12_four cA h_t a_t o_t) sz) (by decide +kernel) rfl rfl (Nat.le_of_ble_eq_true rfl) ?_
  intro p e R s m args below meth c A Q hR hA hQ X hr hin
  unfold f_X12_readsLine at hF
  refine z_aload_n X dX12_readsLine_0 rfl 0 rfl ?_
  refine z_iconst (v := (0 : Int32)) X dX12_readsLine_1 (by decide) ?_
  obtain ⟨r1, hc2, hF⟩ := zb1_e hF
  refine z_Vi (As := [.int (0 : Int32)]) (rest := []) (wc := (w_X12_four cA h_t a_t o_t)) (wc' := (w_X12_four cA h_t a_t o_t)) (ws' := (w_X12_four cA h_t a_t o_t)) (rv := r1) X (cwV 1 X.2.2.2.2.1 gX12_readsLine_X12_isKnown rfl rfl rfl (by decide +kernel) (by rw [hR]; exact ⟨Nat.le_of_ble_eq_true rfl, Nat.le_of_ble_eq_true rfl⟩)) (fun sz => c_X12_isKnown l D cA g sz h_t a_t o_t (0 : Int32) r1 hc2) [0, 1, 2, 3, 4, 5, 6, 7, 8, 9, 10, 11, 12, 13, 14, 15, 16, 17, 18, 19, 20, 21] [1000, 1001, 1002, 1003, 1004, 1005, 1006, 1007, 1008, 1009, 1010, 1011, 1012, 1013, 1014, 1015, 1016, 1017, 1018, 1019, 1020, 1021] rfl (by decide) rfl (by decide) rfl rfl rfl rfl rfl rfl (Nat.le_of_ble_eq_true rfl) dX12_readsLine_2 ⟨Nat.zero_le _, Nat.zero_le _⟩ ?_
  obtain ⟨K24, eK24, hF⟩ := nx_e hF
  have K24_l : ∀ (j22 : Int32) (q23 : Ob), K24 j22 q23 = some (o_t', rv) → ZW p l e R s m args below meth c D A 2 0 0 Q (w_X12_four cA h_t a_t q23) [(0, .ref h_t)] 50 [.int j22] := by
    intro j22 q23 hF
    rw [eK24] at hF
    refine z_istore_n (lv' := [(1, .int j22), (0, .ref h_t)]) X dX12_readsLine_50 rfl (by decide) rfl ?_
    refine z_iload_n X dX12_readsLine_51 rfl 0 rfl ?_
    have hF := if_e hF
    refine z_if_ne (tgt := 57) X dX12_readsLine_52 (by decide) (fun c34 => ?_) (fun c34 => ?_)
    · have hF := hF.2 c34
      refine z_aload_n X dX12_readsLine_57 rfl 1 rfl ?_
      refine z_bipush (v := (59 : Int32)) X dX12_readsLine_58 (by decide) ?_
      obtain ⟨r25, hc26, hF⟩ := zb1_e hF
      refine z_Vi (As := [.int (59 : Int32)]) (rest := []) (wc := (w_X12_four cA h_t a_t q23)) (wc' := (w_X12_four cA h_t a_t q23)) (ws' := (w_X12_four cA h_t a_t q23)) (rv := r25) X (cwV 1 X.2.2.2.2.1 gX12_readsLine_X12_isSign rfl rfl rfl (by decide +kernel) (by rw [hR]; exact ⟨Nat.le_of_ble_eq_true rfl, Nat.le_of_ble_eq_true rfl⟩)) (fun sz => c_X12_isSign l D cA g sz h_t a_t q23 (59 : Int32) r25 hc26) [0, 1, 2, 3, 4, 5, 6, 7, 8, 9, 10, 11, 12, 13, 14, 15, 16, 17, 18, 19, 20, 21] [1000, 1001, 1002, 1003, 1004, 1005, 1006, 1007, 1008, 1009, 1010, 1011, 1012, 1013, 1014, 1015, 1016, 1017, 1018, 1019, 1020, 1021] rfl (by decide) rfl (by decide) rfl rfl rfl rfl rfl rfl (Nat.le_of_ble_eq_true rfl) dX12_readsLine_60 ⟨Nat.zero_le _, Nat.zero_le _⟩ ?_
      have hF := if_e hF
      refine z_if_ne (tgt := 72) X dX12_readsLine_63 (by decide) (fun c33 => ?_) (fun c33 => ?_)
      · have hF := hF.2 c33
        refine z_aload_n X dX12_readsLine_72 rfl 1 rfl ?_
        obtain ⟨o27, hc28, hF⟩ := zb1_e hF
        refine z_Vv (As := []) (rest := []) (wc := (w_X12_four cA h_t a_t q23)) (wc' := (w_X12_four cA h_t a_t o27)) (ws' := (w_X12_four cA h_t a_t o27)) X (cwV 0 X.2.2.2.2.1 gX12_readsLine_X12_next rfl rfl rfl (by decide +kernel) (by rw [hR]; exact ⟨Nat.le_of_ble_eq_true rfl, Nat.le_of_ble_eq_true rfl⟩)) (fun sz => c_X12_next l D cA g sz h_t a_t q23 o27 hc28) [0, 1, 2, 3, 4, 5, 6, 7, 8, 9, 10, 11, 12, 13, 14, 15, 16, 17, 18, 19, 20, 21] [1000, 1001, 1002, 1003, 1004, 1005, 1006, 1007, 1008, 1009, 1010, 1011, 1012, 1013, 1014, 1015, 1016, 1017, 1018, 1019, 1020, 1021] rfl (by decide) rfl (by decide) rfl rfl rfl rfl rfl rfl (Nat.le_of_ble_eq_true rfl) dX12_readsLine_73 ⟨Nat.zero_le _, Nat.zero_le _⟩ ?_
        refine z_iconst (v := (1 : Int32)) X dX12_readsLine_76 (by decide) ?_
        cases hF
        exact z_zret X hA hQ hr (Or.inr rfl)  rfl dX12_readsLine_77 (Nat.le_refl _) (Nat.le_refl _)
      · have hF := hF.1 c33
        refine z_aload_n X dX12_readsLine_66 rfl 1 rfl ?_
        refine z_iconst (v := (1 : Int32)) X dX12_readsLine_67 (by decide) ?_
        obtain ⟨o29, r30, hc31, hF⟩ := zb2_e hF
        refine z_Vi (As := [.int (1 : Int32)]) (rest := []) (wc := (w_X12_four cA h_t a_t q23)) (wc' := (w_X12_four cA h_t a_t o29)) (ws' := (w_X12_four cA h_t a_t o29)) (rv := r30) X (cwV 1 X.2.2.2.2.1 gX12_readsLine_X12_badHere rfl rfl rfl (by decide +kernel) (by rw [hR]; exact ⟨Nat.le_of_ble_eq_true rfl, Nat.le_of_ble_eq_true rfl⟩)) (fun sz => c_X12_badHere l D cA g sz h_t a_t q23 (1 : Int32) o29 r30 hc31) [0, 1, 2, 3, 4, 5, 6, 7, 8, 9, 10, 11, 12, 13, 14, 15, 16, 17, 18, 19, 20, 21] [1000, 1001, 1002, 1003, 1004, 1005, 1006, 1007, 1008, 1009, 1010, 1011, 1012, 1013, 1014, 1015, 1016, 1017, 1018, 1019, 1020, 1021] rfl (by decide) rfl (by decide) rfl rfl rfl rfl rfl rfl (Nat.le_of_ble_eq_true rfl) dX12_readsLine_68 ⟨Nat.zero_le _, Nat.zero_le _⟩ ?_
        obtain ⟨g32, hF⟩ := gz_e hF
        cases hF
        exact z_zret X hA hQ hr g32  rfl dX12_readsLine_71 (Nat.le_refl _) (Nat.le_refl _)
    · have hF := hF.1 c34
      refine z_iconst (v := (0 : Int32)) X dX12_readsLine_55 (by decide) ?_
      cases hF
      exact z_zret X hA hQ hr (Or.inl rfl)  rfl dX12_readsLine_56 (Nat.le_refl _) (Nat.le_refl _)
  have hF := if_e hF
  refine z_if_eq (tgt := 15) X dX12_readsLine_5 (by decide) (fun c53 => ?_) (fun c53 => ?_)
  · have hF := hF.1 c53
    refine z_aload_n X dX12_readsLine_15 rfl 0 rfl ?_
    refine z_iconst (v := (1 : Int32)) X dX12_readsLine_16 (by decide) ?_
    obtain ⟨r35, hc36, hF⟩ := zb1_e hF
    refine z_Vi (As := [.int (1 : Int32)]) (rest := []) (wc := (w_X12_four cA h_t a_t o_t)) (wc' := (w_X12_four cA h_t a_t o_t)) (ws' := (w_X12_four cA h_t a_t o_t)) (rv := r35) X (cwV 1 X.2.2.2.2.1 gX12_readsLine_X12_isKnown rfl rfl rfl (by decide +kernel) (by rw [hR]; exact ⟨Nat.le_of_ble_eq_true rfl, Nat.le_of_ble_eq_true rfl⟩)) (fun sz => c_X12_isKnown l D cA g sz h_t a_t o_t (1 : Int32) r35 hc36) [0, 1, 2, 3, 4, 5, 6, 7, 8, 9, 10, 11, 12, 13, 14, 15, 16, 17, 18, 19, 20, 21] [1000, 1001, 1002, 1003, 1004, 1005, 1006, 1007, 1008, 1009, 1010, 1011, 1012, 1013, 1014, 1015, 1016, 1017, 1018, 1019, 1020, 1021] rfl (by decide) rfl (by decide) rfl rfl rfl rfl rfl rfl (Nat.le_of_ble_eq_true rfl) dX12_readsLine_17 ⟨Nat.zero_le _, Nat.zero_le _⟩ ?_
    have hF := if_e hF
    refine z_if_eq (tgt := 30) X dX12_readsLine_20 (by decide) (fun c49 => ?_) (fun c49 => ?_)
    · have hF := hF.1 c49
      refine z_aload_n X dX12_readsLine_30 rfl 0 rfl ?_
      refine z_iconst (v := (2 : Int32)) X dX12_readsLine_31 (by decide) ?_
      obtain ⟨r37, hc38, hF⟩ := zb1_e hF
      refine z_Vi (As := [.int (2 : Int32)]) (rest := []) (wc := (w_X12_four cA h_t a_t o_t)) (wc' := (w_X12_four cA h_t a_t o_t)) (ws' := (w_X12_four cA h_t a_t o_t)) (rv := r37) X (cwV 1 X.2.2.2.2.1 gX12_readsLine_X12_isKnown rfl rfl rfl (by decide +kernel) (by rw [hR]; exact ⟨Nat.le_of_ble_eq_true rfl, Nat.le_of_ble_eq_true rfl⟩)) (fun sz => c_X12_isKnown l D cA g sz h_t a_t o_t (2 : Int32) r37 hc38) [0, 1, 2, 3, 4, 5, 6, 7, 8, 9, 10, 11, 12, 13, 14, 15, 16, 17, 18, 19, 20, 21] [1000, 1001, 1002, 1003, 1004, 1005, 1006, 1007, 1008, 1009, 1010, 1011, 1012, 1013, 1014, 1015, 1016, 1017, 1018, 1019, 1020, 1021] rfl (by decide) rfl (by decide) rfl rfl rfl rfl rfl rfl (Nat.le_of_ble_eq_true rfl) dX12_readsLine_32 ⟨Nat.zero_le _, Nat.zero_le _⟩ ?_
      have hF := if_e hF
      refine z_if_eq (tgt := 45) X dX12_readsLine_35 (by decide) (fun c45 => ?_) (fun c45 => ?_)
      · have hF := hF.1 c45
        refine z_aload_n X dX12_readsLine_45 rfl 0 rfl ?_
        refine z_iconst (v := (1 : Int32)) X dX12_readsLine_46 (by decide) ?_
        obtain ⟨o39, r40, hc41, hF⟩ := zb2_e hF
        refine z_Vi (As := [.int (1 : Int32)]) (rest := []) (wc := (w_X12_four cA h_t a_t o_t)) (wc' := (w_X12_four cA h_t a_t o39)) (ws' := (w_X12_four cA h_t a_t o39)) (rv := r40) X (cwV 1 X.2.2.2.2.1 gX12_readsLine_X12_badHere rfl rfl rfl (by decide +kernel) (by rw [hR]; exact ⟨Nat.le_of_ble_eq_true rfl, Nat.le_of_ble_eq_true rfl⟩)) (fun sz => c_X12_badHere l D cA g sz h_t a_t o_t (1 : Int32) o39 r40 hc41) [0, 1, 2, 3, 4, 5, 6, 7, 8, 9, 10, 11, 12, 13, 14, 15, 16, 17, 18, 19, 20, 21] [1000, 1001, 1002, 1003, 1004, 1005, 1006, 1007, 1008, 1009, 1010, 1011, 1012, 1013, 1014, 1015, 1016, 1017, 1018, 1019, 1020, 1021] rfl (by decide) rfl (by decide) rfl rfl rfl rfl rfl rfl (Nat.le_of_ble_eq_true rfl) dX12_readsLine_47 ⟨Nat.zero_le _, Nat.zero_le _⟩ ?_
        refine z_lv (lv' := [(0, .ref h_t)]) [0] rfl ?_
        exact K24_l r40 o39 hF
      · have hF := hF.2 c45
        refine z_aload_n X dX12_readsLine_38 rfl 0 rfl ?_
        obtain ⟨o42, r43, hc44, hF⟩ := zb2_e hF
        refine z_Vi (As := []) (rest := []) (wc := (w_X12_four cA h_t a_t o_t)) (wc' := (w_X12_four cA h_t a_t o42)) (ws' := (w_X12_four cA h_t a_t o42)) (rv := r43) X (cwV 0 X.2.2.2.2.1 gX12_readsLine_X12_item rfl rfl rfl (by decide +kernel) (by rw [hR]; exact ⟨Nat.le_of_ble_eq_true rfl, Nat.le_of_ble_eq_true rfl⟩)) (fun sz => c_X12_item l D cA g sz h_t a_t o_t o42 r43 hc44) [0, 1, 2, 3, 4, 5, 6, 7, 8, 9, 10, 11, 12, 13, 14, 15, 16, 17, 18, 19, 20, 21] [1000, 1001, 1002, 1003, 1004, 1005, 1006, 1007, 1008, 1009, 1010, 1011, 1012, 1013, 1014, 1015, 1016, 1017, 1018, 1019, 1020, 1021] rfl (by decide) rfl (by decide) rfl rfl rfl rfl rfl rfl (Nat.le_of_ble_eq_true rfl) dX12_readsLine_39 ⟨Nat.zero_le _, Nat.zero_le _⟩ ?_
        refine z_goto (tgt := 50) X dX12_readsLine_42 (by decide) ?_
        refine z_lv (lv' := [(0, .ref h_t)]) [0] rfl ?_
        exact K24_l r43 o42 hF
    · have hF := hF.2 c49
      refine z_aload_n X dX12_readsLine_23 rfl 0 rfl ?_
      obtain ⟨o46, r47, hc48, hF⟩ := zb2_e hF
      refine z_Vi (As := []) (rest := []) (wc := (w_X12_four cA h_t a_t o_t)) (wc' := (w_X12_four cA h_t a_t o46)) (ws' := (w_X12_four cA h_t a_t o46)) (rv := r47) X (cwV 0 X.2.2.2.2.1 gX12_readsLine_X12_ruleLine rfl rfl rfl (by decide +kernel) (by rw [hR]; exact ⟨Nat.le_of_ble_eq_true rfl, Nat.le_of_ble_eq_true rfl⟩)) (fun sz => c_X12_ruleLine l D cA g sz h_t a_t o_t o46 r47 hc48) [0, 1, 2, 3, 4, 5, 6, 7, 8, 9, 10, 11, 12, 13, 14, 15, 16, 17, 18, 19, 20, 21] [1000, 1001, 1002, 1003, 1004, 1005, 1006, 1007, 1008, 1009, 1010, 1011, 1012, 1013, 1014, 1015, 1016, 1017, 1018, 1019, 1020, 1021] rfl (by decide) rfl (by decide) rfl rfl rfl rfl rfl rfl (Nat.le_of_ble_eq_true rfl) dX12_readsLine_24 ⟨Nat.zero_le _, Nat.zero_le _⟩ ?_
      refine z_goto (tgt := 50) X dX12_readsLine_27 (by decide) ?_
      refine z_lv (lv' := [(0, .ref h_t)]) [0] rfl ?_
      exact K24_l r47 o46 hF
  · have hF := hF.2 c53
    refine z_aload_n X dX12_readsLine_8 rfl 0 rfl ?_
    obtain ⟨o50, r51, hc52, hF⟩ := zb2_e hF
    refine z_Vi (As := []) (rest := []) (wc := (w_X12_four cA h_t a_t o_t)) (wc' := (w_X12_four cA h_t a_t o50)) (ws' := (w_X12_four cA h_t a_t o50)) (rv := r51) X (cwV 0 X.2.2.2.2.1 gX12_readsLine_X12_roomLine rfl rfl rfl (by decide +kernel) (by rw [hR]; exact ⟨Nat.le_of_ble_eq_true rfl, Nat.le_of_ble_eq_true rfl⟩)) (fun sz => c_X12_roomLine l D cA g sz h_t a_t o_t o50 r51 hc52) [0, 1, 2, 3, 4, 5, 6, 7, 8, 9, 10, 11, 12, 13, 14, 15, 16, 17, 18, 19, 20, 21] [1000, 1001, 1002, 1003, 1004, 1005, 1006, 1007, 1008, 1009, 1010, 1011, 1012, 1013, 1014, 1015, 1016, 1017, 1018, 1019, 1020, 1021] rfl (by decide) rfl (by decide) rfl rfl rfl rfl rfl rfl (Nat.le_of_ble_eq_true rfl) dX12_readsLine_9 ⟨Nat.zero_le _, Nat.zero_le _⟩ ?_
    refine z_goto (tgt := 50) X dX12_readsLine_12 (by decide) ?_
    refine z_lv (lv' := [(0, .ref h_t)]) [0] rfl ?_
    exact K24_l r51 o50 hF
set_option maxRecDepth 20000 in
theorem h_X12_takes_X12 : ∀ w ∈ wsX120, w ∈ wsX12_takes := by decide +kernel
set_option maxRecDepth 20000 in
theorem k_X12_takes_75 : ZF wsX12_takes RX12 75 12 7 RX12 TX12 47 := ⟨rfl, by decide, h_X12_takes_X12, by decide +kernel⟩
set_option maxRecDepth 20000 in
theorem k_X12_takes_87 : ZF wsX12_takes RX12 87 12 9 RX12 TX12 47 := ⟨rfl, by decide, h_X12_takes_X12, by decide +kernel⟩
set_option maxRecDepth 20000 in
theorem k_X12_takes_90 : ZF wsX12_takes RX12 90 12 8 RX12 TX12 47 := ⟨rfl, by decide, h_X12_takes_X12, by decide +kernel⟩
set_option maxRecDepth 20000 in
theorem k_X12_takes_93 : ZF wsX12_takes RX12 93 12 13 RX12 TX12 47 := ⟨rfl, by decide, h_X12_takes_X12, by decide +kernel⟩
set_option maxHeartbeats 8000000 in
set_option maxRecDepth 100000 in
theorem c_X12_takes (l : Launch) (D : va_G) (cA : Nat → ClassId) (g : Nat → Nat) (sz : Nat) (h_t : Nat) (a_t : Nat → Nat) (o_t : Ob)  (o_t' : Ob) (rv : Int32) (hF : f_X12_takes o_t = some (o_t', rv)) : Met l yX12_takes wsX12_takes ({ frames := 3, cells := 0, slots := 0, locals := 65 }) (va_Pc [.ref h_t] (PreW D cA g sz (w_X12_four cA h_t a_t o_t))) (va_Qi (fun (r : Int32) (_ : Unit) => r = rv) (PostW D cA sz (w_X12_four cA h_t a_t o_t) (w_X12_four cA h_t a_t o_t')) (va_A (w_X12_four cA h_t a_t o_t) sz)) 0 0 (va_A (w_X12_four cA h_t a_t o_t) sz) := by
  refine z_start (cc := cX12_takes) (maxL := 1) (ret := (some .boolean)) (lv0 := [(0, .ref h_t)]) (Qc := fun sz => va_Qi (fun (r : Int32) (_ : Unit) => r = rv) (PostW D cA sz (w_X12_four cA h_t a_t o_t) (w_X12_four cA h_t a_t o_t')) (va_A (w_X12_four cA h_t a_t o_t) sz)) (free := fun sz => va_A (w_X12_four cA h_t a_t o_t) sz) (by decide +kernel) rfl rfl (Nat.le_of_ble_eq_true rfl) ?_
  intro p e R s m args below meth c A Q hR hA hQ X hr hin
  unfold f_X12_takes at hF
  refine z_aload_n X dX12_takes_0 rfl 0 rfl ?_
  refine z_aload_n X dX12_takes_1 rfl 0 rfl ?_
  refine z_get (v := .int (o_t 7 0)) X k_X12_takes_75 0 rfl rfl dX12_takes_2 ?_
  obtain ⟨o1, eo1, hF⟩ := nx_e hF
  refine z_put (ws' := (w_X12_four cA h_t a_t o1)) X k_X12_takes_90 tyX12 tyX12_ok nmX12 rfl rfl 0 rfl (Nat.le_of_ble_eq_true rfl) (by rw [eo1]; rfl) dX12_takes_5 ?_
  refine z_aload_n X dX12_takes_8 rfl 0 rfl ?_
  refine z_iconst (v := (0 : Int32)) X dX12_takes_9 (by decide) ?_
  obtain ⟨o2, eo2, hF⟩ := nx_e hF
  refine z_put (ws' := (w_X12_four cA h_t a_t o2)) X k_X12_takes_75 tyX12 tyX12_ok nmX12 rfl rfl 0 rfl (Nat.le_of_ble_eq_true rfl) (by rw [eo2]; rfl) dX12_takes_10 ?_
  refine z_aload_n X dX12_takes_13 rfl 0 rfl ?_
  refine z_iconst (v := (0 : Int32)) X dX12_takes_14 (by decide) ?_
  obtain ⟨o3, eo3, hF⟩ := nx_e hF
  refine z_put (ws' := (w_X12_four cA h_t a_t o3)) X k_X12_takes_93 tyX12 tyX12_ok nmX12 rfl rfl 0 rfl (Nat.le_of_ble_eq_true rfl) (by rw [eo3]; rfl) dX12_takes_15 ?_
  refine z_aload_n X dX12_takes_18 rfl 0 rfl ?_
  refine z_get (v := .int (o3 8 0)) X k_X12_takes_90 0 rfl rfl dX12_takes_19 ?_
  refine z_sipush (v := (400 : Int32)) X dX12_takes_22 (by decide) ?_
  have hF := if_e hF
  refine z_icmp_le (tgt := 37) X dX12_takes_25 (by decide) (fun c11 => ?_) (fun c11 => ?_)
  · have hF := hF.1 c11
    refine z_aload_n X dX12_takes_37 rfl 0 rfl ?_
    refine z_iconst (v := (0 : Int32)) X dX12_takes_38 (by decide) ?_
    obtain ⟨o4, eo4, hF⟩ := nx_e hF
    refine z_put (ws' := (w_X12_four cA h_t a_t o4)) X k_X12_takes_87 tyX12 tyX12_ok nmX12 rfl rfl 0 rfl (Nat.le_of_ble_eq_true rfl) (by rw [eo4]; rfl) dX12_takes_39 ?_
    refine z_aload_n X dX12_takes_42 rfl 0 rfl ?_
    obtain ⟨o5, hc6, hF⟩ := zb1_e hF
    refine z_Vv (As := []) (rest := []) (wc := (w_X12_four cA h_t a_t o4)) (wc' := (w_X12_four cA h_t a_t o5)) (ws' := (w_X12_four cA h_t a_t o5)) X (cwV 0 X.2.2.2.2.1 gX12_takes_X12_next rfl rfl rfl (by decide +kernel) (by rw [hR]; exact ⟨Nat.le_of_ble_eq_true rfl, Nat.le_of_ble_eq_true rfl⟩)) (fun sz => c_X12_next l D cA g sz h_t a_t o4 o5 hc6) [0, 1, 2, 3, 4, 5, 6, 7, 8, 9, 10, 11, 12, 13, 14, 15, 16, 17, 18, 19, 20, 21] [1000, 1001, 1002, 1003, 1004, 1005, 1006, 1007, 1008, 1009, 1010, 1011, 1012, 1013, 1014, 1015, 1016, 1017, 1018, 1019, 1020, 1021] rfl (by decide) rfl (by decide) rfl rfl rfl rfl rfl rfl (Nat.le_of_ble_eq_true rfl) dX12_takes_43 ⟨Nat.zero_le _, Nat.zero_le _⟩ ?_
    refine z_iconst (v := (1 : Int32)) X dX12_takes_46 (by decide) ?_
    cases hF
    exact z_zret X hA hQ hr (Or.inr rfl)  rfl dX12_takes_47 (Nat.le_refl _) (Nat.le_refl _)
  · have hF := hF.2 c11
    refine z_aload_n X dX12_takes_28 rfl 0 rfl ?_
    refine z_iconst (v := (1 : Int32)) X dX12_takes_29 (by decide) ?_
    refine z_sipush (v := (400 : Int32)) X dX12_takes_30 (by decide) ?_
    obtain ⟨o7, r8, hc9, hF⟩ := zb2_e hF
    refine z_Vi (As := [.int (1 : Int32), .int (400 : Int32)]) (rest := []) (wc := (w_X12_four cA h_t a_t o3)) (wc' := (w_X12_four cA h_t a_t o7)) (ws' := (w_X12_four cA h_t a_t o7)) (rv := r8) X (cwV 2 X.2.2.2.2.1 gX12_takes_X12_bad rfl rfl rfl (by decide +kernel) (by rw [hR]; exact ⟨Nat.le_of_ble_eq_true rfl, Nat.le_of_ble_eq_true rfl⟩)) (fun sz => c_X12_bad l D cA g sz h_t a_t o3 (1 : Int32) (400 : Int32) o7 r8 hc9) [0, 1, 2, 3, 4, 5, 6, 7, 8, 9, 10, 11, 12, 13, 14, 15, 16, 17, 18, 19, 20, 21] [1000, 1001, 1002, 1003, 1004, 1005, 1006, 1007, 1008, 1009, 1010, 1011, 1012, 1013, 1014, 1015, 1016, 1017, 1018, 1019, 1020, 1021] rfl (by decide) rfl (by decide) rfl rfl rfl rfl rfl rfl (Nat.le_of_ble_eq_true rfl) dX12_takes_33 ⟨Nat.zero_le _, Nat.zero_le _⟩ ?_
    obtain ⟨g10, hF⟩ := gz_e hF
    cases hF
    exact z_zret X hA hQ hr g10  rfl dX12_takes_36 (Nat.le_refl _) (Nat.le_refl _)
set_option maxRecDepth 20000 in
theorem h_X12_readsStore_X12 : ∀ w ∈ wsX120, w ∈ wsX12_readsStore := by decide +kernel
set_option maxRecDepth 20000 in
theorem k_X12_readsStore_19 : ZF wsX12_readsStore RX12 19 12 3 RX12 TX12 47 := ⟨rfl, by decide, h_X12_readsStore_X12, by decide +kernel⟩
set_option maxRecDepth 20000 in
theorem k_X12_readsStore_113 : ZF wsX12_readsStore RX12 113 12 11 RX12 TX12 47 := ⟨rfl, by decide, h_X12_readsStore_X12, by decide +kernel⟩
set_option maxRecDepth 20000 in
theorem k_X12_readsStore_149 : ZF wsX12_readsStore RX12 149 12 17 RX12 TX12 47 := ⟨rfl, by decide, h_X12_readsStore_X12, by decide +kernel⟩
set_option maxRecDepth 20000 in
theorem k_X12_readsStore_153 : ZF wsX12_readsStore RX12 153 12 18 RX12 TX12 47 := ⟨rfl, by decide, h_X12_readsStore_X12, by decide +kernel⟩
set_option maxHeartbeats 8000000 in
set_option maxRecDepth 100000 in
theorem c_X12_readsStore (l : Launch) (D : va_G) (cA : Nat → ClassId) (g : Nat → Nat) (sz : Nat) (h_t : Nat) (a_t : Nat → Nat) (o_t : Ob)  (o_t' : Ob) (rv : Int32) (hF : f_X12_readsStore o_t = some (o_t', rv)) : Met l yX12_readsStore wsX12_readsStore ({ frames := 5, cells := 0, slots := 0, locals := 108 }) (va_Pc [.ref h_t] (PreW D cA g sz (w_X12_four cA h_t a_t o_t))) (va_Qi (fun (r : Int32) (_ : Unit) => r = rv) (PostW D cA sz (w_X12_four cA h_t a_t o_t) (w_X12_four cA h_t a_t o_t')) (va_A (w_X12_four cA h_t a_t o_t) sz)) 0 0 (va_A (w_X12_four cA h_t a_t o_t) sz) := by
  refine z_start (cc := cX12_readsStore) (maxL := 2) (ret := (some .boolean)) (lv0 := [(0, .ref h_t)]) (Qc := fun sz => va_Qi (fun (r : Int32) (_ : Unit) => r = rv) (PostW D cA sz (w_X12_four cA h_t a_t o_t) (w_X12_four cA h_t a_t o_t')) (va_A (w_X12_four cA h_t a_t o_t) sz)) (free := fun sz => va_A (w_X12_four cA h_t a_t o_t) sz) (by decide +kernel) rfl rfl (Nat.le_of_ble_eq_true rfl) ?_
  intro p e R s m args below meth c A Q hR hA hQ X hr hin
  unfold f_X12_readsStore at hF
  refine z_aload_n X dX12_readsStore_0 rfl 0 rfl ?_
  obtain ⟨o1, r2, hc3, hF⟩ := zb2_e hF
  refine z_Vi (As := []) (rest := []) (wc := (w_X12_four cA h_t a_t o_t)) (wc' := (w_X12_four cA h_t a_t o1)) (ws' := (w_X12_four cA h_t a_t o1)) (rv := r2) X (cwV 0 X.2.2.2.2.1 gX12_readsStore_X12_takes rfl rfl rfl (by decide +kernel) (by rw [hR]; exact ⟨Nat.le_of_ble_eq_true rfl, Nat.le_of_ble_eq_true rfl⟩)) (fun sz => c_X12_takes l D cA g sz h_t a_t o_t o1 r2 hc3) [0, 1, 2, 3, 4, 5, 6, 7, 8, 9, 10, 11, 12, 13, 14, 15, 16, 17, 18, 19, 20, 21] [1000, 1001, 1002, 1003, 1004, 1005, 1006, 1007, 1008, 1009, 1010, 1011, 1012, 1013, 1014, 1015, 1016, 1017, 1018, 1019, 1020, 1021] rfl (by decide) rfl (by decide) rfl rfl rfl rfl rfl rfl (Nat.le_of_ble_eq_true rfl) dX12_readsStore_1 ⟨Nat.zero_le _, Nat.zero_le _⟩ ?_
  have hF := if_e hF
  refine z_if_ne (tgt := 9) X dX12_readsStore_4 (by decide) (fun c43 => ?_) (fun c43 => ?_)
  · have hF := hF.2 c43
    refine z_iconst (v := (0 : Int32)) X dX12_readsStore_9 (by decide) ?_
    refine z_istore_n (lv' := [(1, .int (0 : Int32)), (0, .ref h_t)]) X dX12_readsStore_10 rfl (by decide) rfl ?_
    obtain ⟨o12, hL, hF⟩ := zb1_e hF
    have L36_x : ∀ (o12' : Ob), o12' = o12 → ZW p l e R s m args below meth c D A 2 0 0 Q (w_X12_four cA h_t a_t o12') [(0, .ref h_t)] 31 [] := by
      intro o12' hz
      cases hz
      refine z_aload_n X dX12_readsStore_31 rfl 0 rfl ?_
      refine z_get (v := .ref (a_t 3)) X k_X12_readsStore_19 0 rfl rfl dX12_readsStore_32 ?_
      refine z_iconst (v := (0 : Int32)) X dX12_readsStore_35 (by decide) ?_
      refine z_bipush (v := (6 : Int32)) X dX12_readsStore_36 (by decide) ?_
      obtain ⟨g13, hF⟩ := gi_e hF
      obtain ⟨o14, eo14, hF⟩ := nx_e hF
      refine z_iast (ws' := (w_X12_four cA h_t a_t o14)) X 4 rfl g13 (by rw [eo14]; rfl) dX12_readsStore_38 ?_
      refine z_aload_n X dX12_readsStore_39 rfl 0 rfl ?_
      refine z_get (v := .ref (a_t 3)) X k_X12_readsStore_19 0 rfl rfl dX12_readsStore_40 ?_
      refine z_iconst (v := (1 : Int32)) X dX12_readsStore_43 (by decide) ?_
      refine z_iconst (v := (1 : Int32)) X dX12_readsStore_44 (by decide) ?_
      obtain ⟨g15, hF⟩ := gi_e hF
      obtain ⟨o16, eo16, hF⟩ := nx_e hF
      refine z_iast (ws' := (w_X12_four cA h_t a_t o16)) X 4 rfl g15 (by rw [eo16]; rfl) dX12_readsStore_45 ?_
      refine z_aload_n X dX12_readsStore_46 rfl 0 rfl ?_
      refine z_iconst (v := (0 : Int32)) X dX12_readsStore_47 (by decide) ?_
      obtain ⟨o17, eo17, hF⟩ := nx_e hF
      refine z_putZ (ws' := (w_X12_four cA h_t a_t o17)) X k_X12_readsStore_149 tyX12 tyX12_ok nmX12 rfl rfl 0 rfl (Nat.le_of_ble_eq_true rfl) (by rw [eo17]; rfl) (Or.inl rfl) dX12_readsStore_48 ?_
      refine z_aload_n X dX12_readsStore_51 rfl 0 rfl ?_
      refine z_iconst (v := (0 : Int32)) X dX12_readsStore_52 (by decide) ?_
      obtain ⟨o18, eo18, hF⟩ := nx_e hF
      refine z_putZ (ws' := (w_X12_four cA h_t a_t o18)) X k_X12_readsStore_153 tyX12 tyX12_ok nmX12 rfl rfl 0 rfl (Nat.le_of_ble_eq_true rfl) (by rw [eo18]; rfl) (Or.inl rfl) dX12_readsStore_53 ?_
      obtain ⟨z34, hL, hFx, L27_r⟩ := ze1_e hF
      have L27_x : ∀ (o26 : Ob), z34 = .inl o26 → ZW p l e R s m args below meth c D A 2 0 0 Q (w_X12_four cA h_t a_t o26) [] 70 [] := by
        intro o26 hz
        have hF := hFx o26 hz
        refine z_iconst (v := (0 : Int32)) X dX12_readsStore_70 (by decide) ?_
        cases hF
        exact z_zret X hA hQ hr (Or.inl rfl)  rfl dX12_readsStore_71 (Nat.le_refl _) (Nat.le_refl _)
      obtain ⟨B35, hBB35, hL⟩ := zl1_b hL
      have L27 : ∀ (n : Nat) (o25 : Ob), zl1 B35 n o25 = some z34 → ZW p l e R s m args below meth c D A 2 0 0 Q (w_X12_four cA h_t a_t o25) [(0, .ref h_t)] 56 [] := by
        intro n
        induction n with
        | zero => intro o25 hL; cases hL
        | succ n ih =>
          intro o25 hL
          obtain ⟨zz28, hF, hL⟩ := zl1_e hL
          rw [hBB35] at hF
          refine z_aload_n X dX12_readsStore_56 rfl 0 rfl ?_
          refine z_get (v := .int (o25 11 0)) X k_X12_readsStore_113 0 rfl rfl dX12_readsStore_57 ?_
          have hF := if_e hF
          refine z_if_eq (tgt := 72) X dX12_readsStore_60 (by decide) (fun c33 => ?_) (fun c33 => ?_)
          · have hF := hF.1 c33
            refine z_iconst (v := (1 : Int32)) X dX12_readsStore_72 (by decide) ?_
            cases hF
            have hL := (Option.some.inj hL).symm
            have hF := L27_r _ hL
            cases hF
            exact z_zret X hA hQ hr (Or.inr rfl)  rfl dX12_readsStore_73 (Nat.le_refl _) (Nat.le_refl _)
          · have hF := hF.2 c33
            refine z_aload_n X dX12_readsStore_63 rfl 0 rfl ?_
            obtain ⟨o29, r30, hc31, hF⟩ := zb2_e hF
            refine z_Vi (As := []) (rest := []) (wc := (w_X12_four cA h_t a_t o25)) (wc' := (w_X12_four cA h_t a_t o29)) (ws' := (w_X12_four cA h_t a_t o29)) (rv := r30) X (cwV 0 X.2.2.2.2.1 gX12_readsStore_X12_readsLine rfl rfl rfl (by decide +kernel) (by rw [hR]; exact ⟨Nat.le_of_ble_eq_true rfl, Nat.le_of_ble_eq_true rfl⟩)) (fun sz => c_X12_readsLine l D cA g sz h_t a_t o25 o29 r30 hc31) [0, 1, 2, 3, 4, 5, 6, 7, 8, 9, 10, 11, 12, 13, 14, 15, 16, 17, 18, 19, 20, 21] [1000, 1001, 1002, 1003, 1004, 1005, 1006, 1007, 1008, 1009, 1010, 1011, 1012, 1013, 1014, 1015, 1016, 1017, 1018, 1019, 1020, 1021] rfl (by decide) rfl (by decide) rfl rfl rfl rfl rfl rfl (Nat.le_of_ble_eq_true rfl) dX12_readsStore_64 ⟨Nat.zero_le _, Nat.zero_le _⟩ ?_
            have hF := if_e hF
            refine z_if_ne (tgt := 56) X dX12_readsStore_67 (by decide) (fun c32 => ?_) (fun c32 => ?_)
            · have hF := hF.2 c32
              cases hF
              refine z_lv (lv' := [(0, .ref h_t)]) [0] rfl ?_
              exact ih o29 hL
            · have hF := hF.1 c32
              cases hF
              have hL := Option.some.inj hL
              refine z_lv (lv' := []) [] rfl ?_
              exact L27_x o29 hL.symm
      refine z_lv (lv' := [(0, .ref h_t)]) [0] rfl ?_
      exact L27 FU o18 hL
    obtain ⟨B42, hBB42, hL⟩ := zl2_b hL
    have L36 : ∀ (n : Nat) (o10 : Ob) (k11 : Int32), zl2 B42 n o10 k11 = some o12 → ZW p l e R s m args below meth c D A 2 0 0 Q (w_X12_four cA h_t a_t o10) [(0, .ref h_t), (1, .int k11)] 11 [] := by
      intro n
      induction n with
      | zero => intro o10 k11 hL; cases hL
      | succ n ih =>
        intro o10 k11 hL
        obtain ⟨zz37, hF, hL⟩ := zl2_e hL
        rw [hBB42] at hF
        refine z_iload_n X dX12_readsStore_11 rfl 1 rfl ?_
        refine z_sipush (v := (835 : Int32)) X dX12_readsStore_12 (by decide) ?_
        have hF := if_e hF
        refine z_icmp_ge (tgt := 31) X dX12_readsStore_15 (by decide) (fun c41 => ?_) (fun c41 => ?_)
        · have hF := hF.1 c41
          cases hF
          have hL := Option.some.inj hL
          refine z_lv (lv' := [(0, .ref h_t)]) [0] rfl ?_
          exact L36_x o10 hL
        · have hF := hF.2 c41
          refine z_aload_n X dX12_readsStore_18 rfl 0 rfl ?_
          refine z_get (v := .ref (a_t 3)) X k_X12_readsStore_19 0 rfl rfl dX12_readsStore_19 ?_
          refine z_iload_n X dX12_readsStore_22 rfl 1 rfl ?_
          refine z_iconst (v := (0 : Int32)) X dX12_readsStore_23 (by decide) ?_
          obtain ⟨g38, hF⟩ := gi_e hF
          obtain ⟨o39, eo39, hF⟩ := nx_e hF
          refine z_iast (ws' := (w_X12_four cA h_t a_t o39)) X 4 rfl g38 (by rw [eo39]; rfl) dX12_readsStore_24 ?_
          obtain ⟨x40, ex40, hF⟩ := nx_e hF
          refine z_iinc (v := x40) (lv' := [(1, .int x40), (0, .ref h_t)]) (j := 1) X dX12_readsStore_25 rfl (by rw [ex40]; rfl) (by decide) rfl ?_
          refine z_goto (tgt := 11) X dX12_readsStore_28 (by decide) ?_
          cases hF
          refine z_lv (lv' := [(0, .ref h_t), (1, .int x40)]) [1, 0] rfl ?_
          exact ih o39 x40 hL
    refine z_lv (lv' := [(0, .ref h_t), (1, .int (0 : Int32))]) [1, 0] rfl ?_
    exact L36 FU o1 (0 : Int32) hL
  · have hF := hF.1 c43
    refine z_iconst (v := (0 : Int32)) X dX12_readsStore_7 (by decide) ?_
    cases hF
    exact z_zret X hA hQ hr (Or.inl rfl)  rfl dX12_readsStore_8 (Nat.le_refl _) (Nat.le_refl _)
set_option maxRecDepth 20000 in
theorem h_X12_store_X12 : ∀ w ∈ wsX120, w ∈ wsX12_store := by decide +kernel
set_option maxRecDepth 20000 in
theorem k_X12_store_7 : ZF wsX12_store RX12 7 12 0 RX12 TX12 47 := ⟨rfl, by decide, h_X12_store_X12, by decide +kernel⟩
set_option maxRecDepth 20000 in
theorem k_X12_store_19 : ZF wsX12_store RX12 19 12 3 RX12 TX12 47 := ⟨rfl, by decide, h_X12_store_X12, by decide +kernel⟩
set_option maxRecDepth 20000 in
theorem k_X12_store_96 : ZF wsX12_store RX12 96 12 14 RX12 TX12 47 := ⟨rfl, by decide, h_X12_store_X12, by decide +kernel⟩
set_option maxRecDepth 20000 in
theorem k_X12_store_181 : ZF wsX12_store RX12 181 12 5 RX12 TX12 47 := ⟨rfl, by decide, h_X12_store_X12, by decide +kernel⟩
set_option maxHeartbeats 8000000 in
set_option maxRecDepth 100000 in
theorem c_X12_store (l : Launch) (D : va_G) (cA : Nat → ClassId) (g : Nat → Nat) (sz : Nat) (h_t : Nat) (a_t : Nat → Nat) (o_t : Ob)  (o_t' : Ob) (rv : Int32) (hF : f_X12_store o_t = some (o_t', rv)) : Met l yX12_store wsX12_store ({ frames := 6, cells := 0, slots := 0, locals := 129 }) (va_Pc [.ref h_t] (PreW D cA g sz (w_X12_four cA h_t a_t o_t))) (va_Qi (fun (r : Int32) (_ : Unit) => r = rv) (PostW D cA sz (w_X12_four cA h_t a_t o_t) (w_X12_four cA h_t a_t o_t')) (va_A (w_X12_four cA h_t a_t o_t) sz)) 0 0 (va_A (w_X12_four cA h_t a_t o_t) sz) := by
  refine z_start (cc := cX12_store) (maxL := 1) (ret := (some .int)) (lv0 := [(0, .ref h_t)]) (Qc := fun sz => va_Qi (fun (r : Int32) (_ : Unit) => r = rv) (PostW D cA sz (w_X12_four cA h_t a_t o_t) (w_X12_four cA h_t a_t o_t')) (va_A (w_X12_four cA h_t a_t o_t) sz)) (free := fun sz => va_A (w_X12_four cA h_t a_t o_t) sz) (by decide +kernel) rfl rfl (Nat.le_of_ble_eq_true rfl) ?_
  intro p e R s m args below meth c A Q hR hA hQ X hr hin
  unfold f_X12_store at hF
  refine z_aload_n X dX12_store_0 rfl 0 rfl ?_
  obtain ⟨o1, r2, hc3, hF⟩ := zb2_e hF
  refine z_Vi (As := []) (rest := []) (wc := (w_X12_four cA h_t a_t o_t)) (wc' := (w_X12_four cA h_t a_t o1)) (ws' := (w_X12_four cA h_t a_t o1)) (rv := r2) X (cwV 0 X.2.2.2.2.1 gX12_store_X12_readsStore rfl rfl rfl (by decide +kernel) (by rw [hR]; exact ⟨Nat.le_of_ble_eq_true rfl, Nat.le_of_ble_eq_true rfl⟩)) (fun sz => c_X12_readsStore l D cA g sz h_t a_t o_t o1 r2 hc3) [0, 1, 2, 3, 4, 5, 6, 7, 8, 9, 10, 11, 12, 13, 14, 15, 16, 17, 18, 19, 20, 21] [1000, 1001, 1002, 1003, 1004, 1005, 1006, 1007, 1008, 1009, 1010, 1011, 1012, 1013, 1014, 1015, 1016, 1017, 1018, 1019, 1020, 1021] rfl (by decide) rfl (by decide) rfl rfl rfl rfl rfl rfl (Nat.le_of_ble_eq_true rfl) dX12_store_1 ⟨Nat.zero_le _, Nat.zero_le _⟩ ?_
  have hF := if_e hF
  refine z_if_ne (tgt := 16) X dX12_store_4 (by decide) (fun c9 => ?_) (fun c9 => ?_)
  · have hF := hF.2 c9
    refine z_aload_n X dX12_store_16 rfl 0 rfl ?_
    refine z_get (v := .ref (a_t 3)) X k_X12_store_19 0 rfl rfl dX12_store_17 ?_
    refine z_iconst (v := (0 : Int32)) X dX12_store_20 (by decide) ?_
    refine z_aload_n X dX12_store_21 rfl 0 rfl ?_
    refine z_get (v := .ref (a_t 0)) X k_X12_store_7 0 rfl rfl dX12_store_22 ?_
    refine z_iconst (v := (0 : Int32)) X dX12_store_25 (by decide) ?_
    obtain ⟨o4, hc5, hF⟩ := zb1_e hF
    obtain ⟨o6, eo6, hF⟩ := nx_e hF
    refine z_Sv (As := [.ref (a_t 3), .int (0 : Int32), .ref (a_t 0), .int (0 : Int32)]) (rest := []) (wc := (w_X12_copies cA (a_t 3) 835 (o1 3) (a_t 0) 835 (o1 0))) (wc' := (w_X12_copies cA (a_t 3) 835 (o1 3) (a_t 0) 835 o4)) (ws' := (w_X12_four cA h_t a_t o6)) X (va_cwS 4 X.2.2.2.2.1 gX12_store_X12_copies rfl rfl rfl (by decide +kernel) (by rw [hR]; exact ⟨Nat.le_of_ble_eq_true rfl, Nat.le_of_ble_eq_true rfl⟩)) (fun sz => c_X12_copies l D cA g sz (a_t 3) 835 (o1 3) (a_t 0) 835 (o1 0) (0 : Int32) (0 : Int32) o4 hc5) [4, 1] [0, 1001, 2, 3, 1000, 5, 6, 7, 8, 9, 10, 11, 12, 13, 14, 15, 16, 17, 18, 19, 20, 21] rfl (by decide) (by rw [eo6]; rfl) (by decide) rfl rfl rfl (Nat.le_of_ble_eq_true rfl) dX12_store_26 ⟨Nat.zero_le _, Nat.zero_le _⟩ ?_
    refine z_aload_n X dX12_store_29 rfl 0 rfl ?_
    refine z_iconst (v := (0 : Int32)) X dX12_store_30 (by decide) ?_
    obtain ⟨o7, eo7, hF⟩ := nx_e hF
    refine z_put (ws' := (w_X12_four cA h_t a_t o7)) X k_X12_store_181 tyX12 tyX12_ok nmX12 rfl rfl 0 rfl (Nat.le_of_ble_eq_true rfl) (by rw [eo7]; rfl) dX12_store_31 ?_
    refine z_aload_n X dX12_store_34 rfl 0 rfl ?_
    refine z_get (v := .ref (a_t 0)) X k_X12_store_7 0 rfl rfl dX12_store_35 ?_
    refine z_iconst (v := (2 : Int32)) X dX12_store_38 (by decide) ?_
    obtain ⟨g8, hF⟩ := gi_e hF
    refine z_iald X 1 rfl g8 dX12_store_39 ?_
    cases hF
    exact z_iret X hA hQ hr rfl dX12_store_40 (Nat.le_refl _) (Nat.le_refl _)
  · have hF := hF.1 c9
    refine z_sipush (v := (-1000 : Int32)) X dX12_store_7 (by decide) ?_
    refine z_aload_n X dX12_store_10 rfl 0 rfl ?_
    refine z_get (v := .int (o1 14 0)) X k_X12_store_96 0 rfl rfl dX12_store_11 ?_
    refine z_isub X dX12_store_14 ?_
    cases hF
    exact z_iret X hA hQ hr rfl dX12_store_15 (Nat.le_refl _) (Nat.le_refl _)
set_option maxRecDepth 20000 in
theorem h_X12_fault_X12 : ∀ w ∈ wsX120, w ∈ wsX12_fault := by decide +kernel
set_option maxRecDepth 20000 in
theorem k_X12_fault_93 : ZF wsX12_fault RX12 93 12 13 RX12 TX12 47 := ⟨rfl, by decide, h_X12_fault_X12, by decide +kernel⟩
set_option maxHeartbeats 8000000 in
set_option maxRecDepth 100000 in
theorem c_X12_fault (l : Launch) (D : va_G) (cA : Nat → ClassId) (g : Nat → Nat) (sz : Nat) (h_t : Nat) (a_t : Nat → Nat) (o_t : Ob)  (rv : Int32) (hF : f_X12_fault o_t = some rv) : Met l yX12_fault wsX12_fault ({ frames := 0, cells := 0, slots := 0, locals := 0 }) (va_Pc [.ref h_t] (PreW D cA g sz (w_X12_four cA h_t a_t o_t))) (va_Qi (fun (r : Int32) (_ : Unit) => r = rv) (PostW D cA sz (w_X12_four cA h_t a_t o_t) (w_X12_four cA h_t a_t o_t)) (va_A (w_X12_four cA h_t a_t o_t) sz)) 0 0 (va_A (w_X12_four cA h_t a_t o_t) sz) := by
  refine z_start (cc := cX12_fault) (maxL := 1) (ret := (some .int)) (lv0 := [(0, .ref h_t)]) (Qc := fun sz => va_Qi (fun (r : Int32) (_ : Unit) => r = rv) (PostW D cA sz (w_X12_four cA h_t a_t o_t) (w_X12_four cA h_t a_t o_t)) (va_A (w_X12_four cA h_t a_t o_t) sz)) (free := fun sz => va_A (w_X12_four cA h_t a_t o_t) sz) (by decide +kernel) rfl rfl (Nat.le_of_ble_eq_true rfl) ?_
  intro p e R s m args below meth c A Q hR hA hQ X hr hin
  unfold f_X12_fault at hF
  refine z_aload_n X dX12_fault_0 rfl 0 rfl ?_
  refine z_get (v := .int (o_t 13 0)) X k_X12_fault_93 0 rfl rfl dX12_fault_1 ?_
  cases hF
  exact z_iret X hA hQ hr rfl dX12_fault_4 (Nat.le_refl _) (Nat.le_refl _)
set_option maxRecDepth 20000 in
theorem h_X12_call_X12 : ∀ w ∈ wsX120, w ∈ wsX12_call := by decide +kernel
set_option maxRecDepth 20000 in
theorem k_X12_call_184 : ZF wsX12_call RX12 184 12 21 RX12 TX12 47 := ⟨rfl, by decide, h_X12_call_X12, by decide +kernel⟩
set_option maxHeartbeats 8000000 in
set_option maxRecDepth 100000 in
theorem c_X12_call (l : Launch) (D : va_G) (cA : Nat → ClassId) (g : Nat → Nat) (sz : Nat) (h_t : Nat) (a_t : Nat → Nat) (o_t : Ob)  (o_t' : Ob) (hF : f_X12_call o_t = some o_t') : Met l yX12_call wsX12_call ({ frames := 0, cells := 0, slots := 0, locals := 0 }) (va_Pc [.ref h_t] (PreW D cA g sz (w_X12_four cA h_t a_t o_t))) (va_Qv (fun (_ : Unit) => True) (PostW D cA sz (w_X12_four cA h_t a_t o_t) (w_X12_four cA h_t a_t o_t')) (va_A (w_X12_four cA h_t a_t o_t) sz)) 0 0 (va_A (w_X12_four cA h_t a_t o_t) sz) := by
  refine z_start (cc := cX12_call) (maxL := 1) (ret := none) (lv0 := [(0, .ref h_t)]) (Qc := fun sz => va_Qv (fun (_ : Unit) => True) (PostW D cA sz (w_X12_four cA h_t a_t o_t) (w_X12_four cA h_t a_t o_t')) (va_A (w_X12_four cA h_t a_t o_t) sz)) (free := fun sz => va_A (w_X12_four cA h_t a_t o_t) sz) (by decide +kernel) rfl rfl (Nat.le_of_ble_eq_true rfl) ?_
  intro p e R s m args below meth c A Q hR hA hQ X hr hin
  unfold f_X12_call at hF
  refine z_aload_n X dX12_call_0 rfl 0 rfl ?_
  refine z_iconst (v := (0 : Int32)) X dX12_call_1 (by decide) ?_
  obtain ⟨o1, eo1, hF⟩ := nx_e hF
  refine z_putZ (ws' := (w_X12_four cA h_t a_t o1)) X k_X12_call_184 tyX12 tyX12_ok nmX12 rfl rfl 0 rfl (Nat.le_of_ble_eq_true rfl) (by rw [eo1]; rfl) (Or.inl rfl) dX12_call_2 ?_
  cases hF
  exact z_vret X hA hQ hr dX12_call_5 (Nat.le_refl _) (Nat.le_refl _)
set_option maxRecDepth 20000 in
theorem h_X12_gatesOpen_X12 : ∀ w ∈ wsX120, w ∈ wsX12_gatesOpen := by decide +kernel
set_option maxRecDepth 20000 in
theorem k_X12_gatesOpen_33 : ZF wsX12_gatesOpen RX12 33 12 19 RX12 TX12 47 := ⟨rfl, by decide, h_X12_gatesOpen_X12, by decide +kernel⟩
set_option maxRecDepth 20000 in
theorem k_X12_gatesOpen_184 : ZF wsX12_gatesOpen RX12 184 12 21 RX12 TX12 47 := ⟨rfl, by decide, h_X12_gatesOpen_X12, by decide +kernel⟩
set_option maxRecDepth 20000 in
theorem k_X12_gatesOpen_187 : ZF wsX12_gatesOpen RX12 187 12 20 RX12 TX12 47 := ⟨rfl, by decide, h_X12_gatesOpen_X12, by decide +kernel⟩
set_option maxHeartbeats 8000000 in
set_option maxRecDepth 100000 in
theorem c_X12_gatesOpen (l : Launch) (D : va_G) (cA : Nat → ClassId) (g : Nat → Nat) (sz : Nat) (h_t : Nat) (a_t : Nat → Nat) (o_t : Ob)  (o_t' : Ob) (hF : f_X12_gatesOpen o_t = some o_t') : Met l yX12_gatesOpen wsX12_gatesOpen ({ frames := 0, cells := 0, slots := 0, locals := 0 }) (va_Pc [.ref h_t] (PreW D cA g sz (w_X12_four cA h_t a_t o_t))) (va_Qv (fun (_ : Unit) => True) (PostW D cA sz (w_X12_four cA h_t a_t o_t) (w_X12_four cA h_t a_t o_t')) (va_A (w_X12_four cA h_t a_t o_t) sz)) 0 0 (va_A (w_X12_four cA h_t a_t o_t) sz) := by
  refine z_start (cc := cX12_gatesOpen) (maxL := 2) (ret := none) (lv0 := [(0, .ref h_t)]) (Qc := fun sz => va_Qv (fun (_ : Unit) => True) (PostW D cA sz (w_X12_four cA h_t a_t o_t) (w_X12_four cA h_t a_t o_t')) (va_A (w_X12_four cA h_t a_t o_t) sz)) (free := fun sz => va_A (w_X12_four cA h_t a_t o_t) sz) (by decide +kernel) rfl rfl (Nat.le_of_ble_eq_true rfl) ?_
  intro p e R s m args below meth c A Q hR hA hQ X hr hin
  unfold f_X12_gatesOpen at hF
  refine z_aload_n X dX12_gatesOpen_0 rfl 0 rfl ?_
  refine z_get (v := .int (o_t 21 0)) X k_X12_gatesOpen_184 0 rfl rfl dX12_gatesOpen_1 ?_
  obtain ⟨K4, eK4, hF⟩ := nx_e hF
  have K4_l : ∀ (q3 : Ob), K4 q3 = some o_t' → ZW p l e R s m args below meth c D A 2 0 0 Q (w_X12_four cA h_t a_t q3) [(0, .ref h_t)] 12 [] := by
    intro q3 hF
    rw [eK4] at hF
    refine z_aload_n X dX12_gatesOpen_12 rfl 0 rfl ?_
    refine z_iconst (v := (1 : Int32)) X dX12_gatesOpen_13 (by decide) ?_
    obtain ⟨o5, eo5, hF⟩ := nx_e hF
    refine z_putZ (ws' := (w_X12_four cA h_t a_t o5)) X k_X12_gatesOpen_184 tyX12 tyX12_ok nmX12 rfl rfl 0 rfl (Nat.le_of_ble_eq_true rfl) (by rw [eo5]; rfl) (Or.inr rfl) dX12_gatesOpen_14 ?_
    refine z_iconst (v := (1 : Int32)) X dX12_gatesOpen_17 (by decide) ?_
    refine z_istore_n (lv' := [(1, .int (1 : Int32)), (0, .ref h_t)]) X dX12_gatesOpen_18 rfl (by decide) rfl ?_
    obtain ⟨z25, hL, hFx, L17_r⟩ := ze1_e hF
    have L17_x : ∀ (o16 : Ob), z25 = .inl o16 → ZW p l e R s m args below meth c D A 2 0 0 Q (w_X12_four cA h_t a_t o16) [] 60 [] := by
      intro o16 hz
      have hF := hFx o16 hz
      cases hF
      exact z_vret X hA hQ hr dX12_gatesOpen_60 (Nat.le_refl _) (Nat.le_refl _)
    obtain ⟨B26, hBB26, hL⟩ := zl2_b hL
    have L17 : ∀ (n : Nat) (o14 : Ob) (k15 : Int32), zl2 B26 n o14 k15 = some z25 → ZW p l e R s m args below meth c D A 2 0 0 Q (w_X12_four cA h_t a_t o14) [(0, .ref h_t), (1, .int k15)] 19 [] := by
      intro n
      induction n with
      | zero => intro o14 k15 hL; cases hL
      | succ n ih =>
        intro o14 k15 hL
        obtain ⟨zz18, hF, hL⟩ := zl2_e hL
        rw [hBB26] at hF
        refine z_iload_n X dX12_gatesOpen_19 rfl 1 rfl ?_
        refine z_iconst (v := (5 : Int32)) X dX12_gatesOpen_20 (by decide) ?_
        have hF := if_e hF
        refine z_icmp_ge (tgt := 60) X dX12_gatesOpen_21 (by decide) (fun c24 => ?_) (fun c24 => ?_)
        · have hF := hF.1 c24
          cases hF
          have hL := Option.some.inj hL
          refine z_lv (lv' := []) [] rfl ?_
          exact L17_x o14 hL.symm
        · have hF := hF.2 c24
          refine z_aload_n X dX12_gatesOpen_24 rfl 0 rfl ?_
          refine z_get (v := .int (o14 20 0)) X k_X12_gatesOpen_187 0 rfl rfl dX12_gatesOpen_25 ?_
          refine z_bipush (v := (60 : Int32)) X dX12_gatesOpen_28 (by decide) ?_
          have hF := if_e hF
          refine z_icmp_ne (tgt := 34) X dX12_gatesOpen_30 (by decide) (fun c23 => ?_) (fun c23 => ?_)
          · have hF := hF.2 c23
            refine z_aload_n X dX12_gatesOpen_34 rfl 0 rfl ?_
            refine z_get (v := .ref (a_t 19)) X k_X12_gatesOpen_33 0 rfl rfl dX12_gatesOpen_35 ?_
            refine z_aload_n X dX12_gatesOpen_38 rfl 0 rfl ?_
            refine z_get (v := .int (o14 20 0)) X k_X12_gatesOpen_187 0 rfl rfl dX12_gatesOpen_39 ?_
            refine z_iload_n X dX12_gatesOpen_42 rfl 1 rfl ?_
            obtain ⟨g19, hF⟩ := gi_e hF
            obtain ⟨o20, eo20, hF⟩ := nx_e hF
            refine z_iast (ws' := (w_X12_four cA h_t a_t o20)) X 8 rfl g19 (by rw [eo20]; rfl) dX12_gatesOpen_43 ?_
            refine z_aload_n X dX12_gatesOpen_44 rfl 0 rfl ?_
            refine z_dup X dX12_gatesOpen_45 rfl ?_
            refine z_get (v := .int (o20 20 0)) X k_X12_gatesOpen_187 0 rfl rfl dX12_gatesOpen_46 ?_
            refine z_iconst (v := (1 : Int32)) X dX12_gatesOpen_49 (by decide) ?_
            refine z_iadd X dX12_gatesOpen_50 ?_
            obtain ⟨o21, eo21, hF⟩ := nx_e hF
            refine z_put (ws' := (w_X12_four cA h_t a_t o21)) X k_X12_gatesOpen_187 tyX12 tyX12_ok nmX12 rfl rfl 0 rfl (Nat.le_of_ble_eq_true rfl) (by rw [eo21]; rfl) dX12_gatesOpen_51 ?_
            obtain ⟨x22, ex22, hF⟩ := nx_e hF
            refine z_iinc (v := x22) (lv' := [(1, .int x22), (0, .ref h_t)]) (j := 1) X dX12_gatesOpen_54 rfl (by rw [ex22]; rfl) (by decide) rfl ?_
            refine z_goto (tgt := 19) X dX12_gatesOpen_57 (by decide) ?_
            cases hF
            refine z_lv (lv' := [(0, .ref h_t), (1, .int x22)]) [1, 0] rfl ?_
            exact ih o21 x22 hL
          · have hF := hF.1 c23
            cases hF
            have hL := (Option.some.inj hL).symm
            have hF := L17_r _ hL
            cases hF
            exact z_vret X hA hQ hr dX12_gatesOpen_33 (Nat.le_refl _) (Nat.le_refl _)
    refine z_lv (lv' := [(0, .ref h_t), (1, .int (1 : Int32))]) [1, 0] rfl ?_
    exact L17 FU o5 (1 : Int32) hL
  have hF := if_e hF
  refine z_if_ne (tgt := 12) X dX12_gatesOpen_4 (by decide) (fun c28 => ?_) (fun c28 => ?_)
  · have hF := hF.2 c28
    refine z_lv (lv' := [(0, .ref h_t)]) [0] rfl ?_
    exact K4_l o_t hF
  · have hF := hF.1 c28
    refine z_aload_n X dX12_gatesOpen_7 rfl 0 rfl ?_
    refine z_iconst (v := (0 : Int32)) X dX12_gatesOpen_8 (by decide) ?_
    obtain ⟨o27, eo27, hF⟩ := nx_e hF
    refine z_put (ws' := (w_X12_four cA h_t a_t o27)) X k_X12_gatesOpen_187 tyX12 tyX12_ok nmX12 rfl rfl 0 rfl (Nat.le_of_ble_eq_true rfl) (by rw [eo27]; rfl) dX12_gatesOpen_9 ?_
    refine z_lv (lv' := [(0, .ref h_t)]) [0] rfl ?_
    exact K4_l o27 hF
set_option maxRecDepth 20000 in
theorem h_X12_gate_X12 : ∀ w ∈ wsX120, w ∈ wsX12_gate := by decide +kernel
set_option maxRecDepth 20000 in
theorem k_X12_gate_33 : ZF wsX12_gate RX12 33 12 19 RX12 TX12 47 := ⟨rfl, by decide, h_X12_gate_X12, by decide +kernel⟩
set_option maxRecDepth 20000 in
theorem k_X12_gate_187 : ZF wsX12_gate RX12 187 12 20 RX12 TX12 47 := ⟨rfl, by decide, h_X12_gate_X12, by decide +kernel⟩
set_option maxHeartbeats 8000000 in
set_option maxRecDepth 100000 in
theorem c_X12_gate (l : Launch) (D : va_G) (cA : Nat → ClassId) (g : Nat → Nat) (sz : Nat) (h_t : Nat) (a_t : Nat → Nat) (o_t : Ob) (v1 : Int32) (rv : Int32) (hF : f_X12_gate o_t v1 = some rv) : Met l yX12_gate wsX12_gate ({ frames := 1, cells := 0, slots := 0, locals := 22 }) (va_Pc [.ref h_t, .int v1] (PreW D cA g sz (w_X12_four cA h_t a_t o_t))) (va_Qi (fun (r : Int32) (_ : Unit) => r = rv) (PostW D cA sz (w_X12_four cA h_t a_t o_t) (w_X12_four cA h_t a_t o_t)) (va_A (w_X12_four cA h_t a_t o_t) sz)) 0 0 (va_A (w_X12_four cA h_t a_t o_t) sz) := by
  refine z_start (cc := cX12_gate) (maxL := 2) (ret := (some .int)) (lv0 := [(0, .ref h_t), (1, .int v1)]) (Qc := fun sz => va_Qi (fun (r : Int32) (_ : Unit) => r = rv) (PostW D cA sz (w_X12_four cA h_t a_t o_t) (w_X12_four cA h_t a_t o_t)) (va_A (w_X12_four cA h_t a_t o_t) sz)) (free := fun sz => va_A (w_X12_four cA h_t a_t o_t) sz) (by decide +kernel) rfl rfl (Nat.le_of_ble_eq_true rfl) ?_
  intro p e R s m args below meth c A Q hR hA hQ X hr hin
  unfold f_X12_gate at hF
  refine z_iload_n X dX12_gate_0 rfl 1 rfl ?_
  refine z_iconst (v := (0 : Int32)) X dX12_gate_1 (by decide) ?_
  refine z_aload_n X dX12_gate_2 rfl 0 rfl ?_
  refine z_get (v := .int (o_t 20 0)) X k_X12_gate_187 0 rfl rfl dX12_gate_3 ?_
  refine z_iconst (v := (1 : Int32)) X dX12_gate_6 (by decide) ?_
  refine z_isub X dX12_gate_7 ?_
  obtain ⟨r1, hc2, hF⟩ := zb1_e hF
  refine z_Si (As := [.int v1, .int (0 : Int32), .int ((o_t 20 0) - (1 : Int32))]) (rest := []) (wc := ([] : va_W)) (wc' := ([] : va_W)) (ws' := (w_X12_four cA h_t a_t o_t)) (rv := r1) X (va_cwS 3 X.2.2.2.2.1 gX12_gate_X12_isIn rfl rfl rfl (by decide +kernel) (by rw [hR]; exact ⟨Nat.le_of_ble_eq_true rfl, Nat.le_of_ble_eq_true rfl⟩)) (fun sz => c_X12_isIn l D cA g sz v1 (0 : Int32) ((o_t 20 0) - (1 : Int32)) r1 hc2) [] [0, 1, 2, 3, 4, 5, 6, 7, 8, 9, 10, 11, 12, 13, 14, 15, 16, 17, 18, 19, 20, 21] rfl (by decide) rfl (by decide) rfl rfl rfl (Nat.le_of_ble_eq_true rfl) dX12_gate_8 ⟨Nat.zero_le _, Nat.zero_le _⟩ ?_
  have hF := if_e hF
  refine z_if_eq (tgt := 23) X dX12_gate_11 (by decide) (fun c4 => ?_) (fun c4 => ?_)
  · have hF := hF.1 c4
    refine z_iconst (v := (-1 : Int32)) X dX12_gate_23 (by decide) ?_
    cases hF
    exact z_iret X hA hQ hr rfl dX12_gate_24 (Nat.le_refl _) (Nat.le_refl _)
  · have hF := hF.2 c4
    refine z_aload_n X dX12_gate_14 rfl 0 rfl ?_
    refine z_get (v := .ref (a_t 19)) X k_X12_gate_33 0 rfl rfl dX12_gate_15 ?_
    refine z_iload_n X dX12_gate_18 rfl 1 rfl ?_
    obtain ⟨g3, hF⟩ := gi_e hF
    refine z_iald X 8 rfl g3 dX12_gate_19 ?_
    refine z_goto (tgt := 24) X dX12_gate_20 (by decide) ?_
    cases hF
    exact z_iret X hA hQ hr rfl dX12_gate_24 (Nat.le_refl _) (Nat.le_refl _)
set_option maxHeartbeats 8000000 in
set_option maxRecDepth 100000 in
theorem c_X12_isTaken (l : Launch) (D : va_G) (cA : Nat → ClassId) (g : Nat → Nat) (sz : Nat)  (v0 : Int32) (v1 : Int32) (rv : Int32) (hF : f_X12_isTaken v0 v1 = some rv) : Met l yX12_isTaken wsX12_isTaken ({ frames := 0, cells := 0, slots := 0, locals := 0 }) (va_Pc [.int v0, .int v1] (PreW D cA g sz ([] : va_W))) (va_Qi (fun (r : Int32) (_ : Unit) => r = rv) (PostW D cA sz ([] : va_W) ([] : va_W)) (va_A ([] : va_W) sz)) 0 0 (va_A ([] : va_W) sz) := by
  refine z_start (cc := cX12_isTaken) (maxL := 2) (ret := (some .boolean)) (lv0 := [(0, .int v0), (1, .int v1)]) (Qc := fun sz => va_Qi (fun (r : Int32) (_ : Unit) => r = rv) (PostW D cA sz ([] : va_W) ([] : va_W)) (va_A ([] : va_W) sz)) (free := fun sz => va_A ([] : va_W) sz) (by decide +kernel) rfl rfl (Nat.le_of_ble_eq_true rfl) ?_
  intro p e R s m args below meth c A Q hR hA hQ X hr hin
  unfold f_X12_isTaken at hF
  refine z_iload_n X dX12_isTaken_0 rfl 0 rfl ?_
  have hF := if_e hF
  refine z_if_eq (tgt := 34) X dX12_isTaken_1 (by decide) (fun c13 => ?_) (fun c13 => ?_)
  · have hF := hF.1 c13
    refine z_iconst (v := (1 : Int32)) X dX12_isTaken_34 (by decide) ?_
    refine z_goto (tgt := 39) X dX12_isTaken_35 (by decide) ?_
    cases hF
    exact z_zret X hA hQ hr (Or.inr rfl)  rfl dX12_isTaken_39 (Nat.le_refl _) (Nat.le_refl _)
  · have hF := hF.2 c13
    refine z_iload_n X dX12_isTaken_4 rfl 0 rfl ?_
    refine z_iconst (v := (1 : Int32)) X dX12_isTaken_5 (by decide) ?_
    obtain ⟨K3, eK3, hF⟩ := nx_e hF
    have K3_l : ∀ (_ : Unit), K3 () = some rv → ZW p l e R s m args below meth c D A 2 0 0 Q ([] : va_W) [(0, .int v0), (1, .int v1)] 14 [] := by
      intro _ hF
      rw [eK3] at hF
      refine z_iload_n X dX12_isTaken_14 rfl 0 rfl ?_
      refine z_iconst (v := (2 : Int32)) X dX12_isTaken_15 (by decide) ?_
      obtain ⟨K6, eK6, hF⟩ := nx_e hF
      have K6_l : ∀ (_ : Unit), K6 () = some rv → ZW p l e R s m args below meth c D A 2 0 0 Q ([] : va_W) [(0, .int v0), (1, .int v1)] 24 [] := by
        intro _ hF
        rw [eK6] at hF
        refine z_iload_n X dX12_isTaken_24 rfl 0 rfl ?_
        refine z_iconst (v := (3 : Int32)) X dX12_isTaken_25 (by decide) ?_
        have hF := if_e hF
        refine z_icmp_ne (tgt := 38) X dX12_isTaken_26 (by decide) (fun c8 => ?_) (fun c8 => ?_)
        · have hF := hF.2 c8
          refine z_iconst (v := (0 : Int32)) X dX12_isTaken_38 (by decide) ?_
          cases hF
          exact z_zret X hA hQ hr (Or.inl rfl)  rfl dX12_isTaken_39 (Nat.le_refl _) (Nat.le_refl _)
        · have hF := hF.1 c8
          refine z_iload_n X dX12_isTaken_29 rfl 1 rfl ?_
          refine z_iconst (v := (3 : Int32)) X dX12_isTaken_30 (by decide) ?_
          have hF := if_e hF
          refine z_icmp_ne (tgt := 38) X dX12_isTaken_31 (by decide) (fun c7 => ?_) (fun c7 => ?_)
          · have hF := hF.2 c7
            refine z_iconst (v := (0 : Int32)) X dX12_isTaken_38 (by decide) ?_
            cases hF
            exact z_zret X hA hQ hr (Or.inl rfl)  rfl dX12_isTaken_39 (Nat.le_refl _) (Nat.le_refl _)
          · have hF := hF.1 c7
            refine z_iconst (v := (1 : Int32)) X dX12_isTaken_34 (by decide) ?_
            refine z_goto (tgt := 39) X dX12_isTaken_35 (by decide) ?_
            cases hF
            exact z_zret X hA hQ hr (Or.inr rfl)  rfl dX12_isTaken_39 (Nat.le_refl _) (Nat.le_refl _)
      have hF := if_e hF
      refine z_icmp_ne (tgt := 24) X dX12_isTaken_16 (by decide) (fun c10 => ?_) (fun c10 => ?_)
      · have hF := hF.2 c10
        refine z_lv (lv' := [(0, .int v0), (1, .int v1)]) [0, 1] rfl ?_
        exact K6_l () hF
      · have hF := hF.1 c10
        refine z_iload_n X dX12_isTaken_19 rfl 1 rfl ?_
        refine z_iconst (v := (1 : Int32)) X dX12_isTaken_20 (by decide) ?_
        have hF := if_e hF
        refine z_icmp_gt (tgt := 34) X dX12_isTaken_21 (by decide) (fun c9 => ?_) (fun c9 => ?_)
        · have hF := hF.1 c9
          refine z_iconst (v := (1 : Int32)) X dX12_isTaken_34 (by decide) ?_
          refine z_goto (tgt := 39) X dX12_isTaken_35 (by decide) ?_
          cases hF
          exact z_zret X hA hQ hr (Or.inr rfl)  rfl dX12_isTaken_39 (Nat.le_refl _) (Nat.le_refl _)
        · have hF := hF.2 c9
          refine z_lv (lv' := [(0, .int v0), (1, .int v1)]) [0, 1] rfl ?_
          exact K6_l () hF
    have hF := if_e hF
    refine z_icmp_ne (tgt := 14) X dX12_isTaken_6 (by decide) (fun c12 => ?_) (fun c12 => ?_)
    · have hF := hF.2 c12
      refine z_lv (lv' := [(0, .int v0), (1, .int v1)]) [0, 1] rfl ?_
      exact K3_l () hF
    · have hF := hF.1 c12
      refine z_iload_n X dX12_isTaken_9 rfl 1 rfl ?_
      refine z_iconst (v := (2 : Int32)) X dX12_isTaken_10 (by decide) ?_
      have hF := if_e hF
      refine z_icmp_lt (tgt := 34) X dX12_isTaken_11 (by decide) (fun c11 => ?_) (fun c11 => ?_)
      · have hF := hF.1 c11
        refine z_iconst (v := (1 : Int32)) X dX12_isTaken_34 (by decide) ?_
        refine z_goto (tgt := 39) X dX12_isTaken_35 (by decide) ?_
        cases hF
        exact z_zret X hA hQ hr (Or.inr rfl)  rfl dX12_isTaken_39 (Nat.le_refl _) (Nat.le_refl _)
      · have hF := hF.2 c11
        refine z_lv (lv' := [(0, .int v0), (1, .int v1)]) [0, 1] rfl ?_
        exact K3_l () hF
set_option maxRecDepth 20000 in
theorem h_X12_entry_X12 : ∀ w ∈ wsX120, w ∈ wsX12_entry := by decide +kernel
set_option maxRecDepth 20000 in
theorem k_X12_entry_7 : ZF wsX12_entry RX12 7 12 0 RX12 TX12 47 := ⟨rfl, by decide, h_X12_entry_X12, by decide +kernel⟩
set_option maxHeartbeats 8000000 in
set_option maxRecDepth 100000 in
theorem c_X12_entry (l : Launch) (D : va_G) (cA : Nat → ClassId) (g : Nat → Nat) (sz : Nat) (h_t : Nat) (a_t : Nat → Nat) (o_t : Ob) (v1 : Int32) (v2 : Int32) (v3 : Int32) (o_t' : Ob) (hF : f_X12_entry o_t v1 v2 v3 = some o_t') : Met l yX12_entry wsX12_entry ({ frames := 1, cells := 0, slots := 0, locals := 21 }) (va_Pc [.ref h_t, .int v1, .int v2, .int v3] (PreW D cA g sz (w_X12_four cA h_t a_t o_t))) (va_Qv (fun (_ : Unit) => True) (PostW D cA sz (w_X12_four cA h_t a_t o_t) (w_X12_four cA h_t a_t o_t')) (va_A (w_X12_four cA h_t a_t o_t) sz)) 0 0 (va_A (w_X12_four cA h_t a_t o_t) sz) := by
  refine z_start (cc := cX12_entry) (maxL := 7) (ret := none) (lv0 := [(0, .ref h_t), (1, .int v1), (2, .int v2), (3, .int v3)]) (Qc := fun sz => va_Qv (fun (_ : Unit) => True) (PostW D cA sz (w_X12_four cA h_t a_t o_t) (w_X12_four cA h_t a_t o_t')) (va_A (w_X12_four cA h_t a_t o_t) sz)) (free := fun sz => va_A (w_X12_four cA h_t a_t o_t) sz) (by decide +kernel) rfl rfl (Nat.le_of_ble_eq_true rfl) ?_
  intro p e R s m args below meth c A Q hR hA hQ X hr hin
  unfold f_X12_entry at hF
  refine z_iconst (v := (0 : Int32)) X dX12_entry_0 (by decide) ?_
  refine z_istore (lv' := [(4, .int (0 : Int32)), (0, .ref h_t), (1, .int v1), (2, .int v2), (3, .int v3)]) X dX12_entry_1 (by decide) rfl ?_
  obtain ⟨o40, hL, hF⟩ := zb1_e hF
  have L41_x : ∀ (o40' : Ob), o40' = o40 → ZW p l e R s m args below meth c D A 7 0 0 Q (w_X12_four cA h_t a_t o40') [] 186 [] := by
    intro o40' hz
    cases hz
    cases hF
    exact z_vret X hA hQ hr dX12_entry_186 (Nat.le_refl _) (Nat.le_refl _)
  obtain ⟨B78, hBB78, hL⟩ := zl2_b hL
  have L41 : ∀ (n : Nat) (o38 : Ob) (k39 : Int32), zl2 B78 n o38 k39 = some o40 → ZW p l e R s m args below meth c D A 7 0 0 Q (w_X12_four cA h_t a_t o38) [(0, .ref h_t), (1, .int v1), (2, .int v2), (3, .int v3), (4, .int k39)] 3 [] := by
    intro n
    induction n with
    | zero => intro o38 k39 hL; cases hL
    | succ n ih =>
      intro o38 k39 hL
      obtain ⟨zz42, hF, hL⟩ := zl2_e hL
      rw [hBB78] at hF
      refine z_iload X dX12_entry_3 4 rfl ?_
      refine z_iconst (v := (3 : Int32)) X dX12_entry_5 (by decide) ?_
      have hF := if_e hF
      refine z_icmp_ge (tgt := 186) X dX12_entry_6 (by decide) (fun c77 => ?_) (fun c77 => ?_)
      · have hF := hF.1 c77
        cases hF
        have hL := Option.some.inj hL
        refine z_lv (lv' := []) [] rfl ?_
        exact L41_x o38 hL
      · have hF := hF.2 c77
        refine z_sipush (v := (544 : Int32)) X dX12_entry_9 (by decide) ?_
        refine z_bipush (v := (7 : Int32)) X dX12_entry_12 (by decide) ?_
        refine z_iload X dX12_entry_14 4 rfl ?_
        refine z_imul X dX12_entry_16 ?_
        refine z_iadd X dX12_entry_17 ?_
        obtain ⟨x43, ex43, hF⟩ := nx_e hF
        refine z_nm ex43 ?_
        refine z_istore (lv' := [(5, .int x43), (0, .ref h_t), (1, .int v1), (2, .int v2), (3, .int v3), (4, .int k39)]) X dX12_entry_18 (by decide) rfl ?_
        refine z_aload_n X dX12_entry_20 rfl 1 rfl ?_
        refine z_get (v := .ref (a_t 0)) X k_X12_entry_7 0 rfl rfl dX12_entry_21 ?_
        refine z_iload X dX12_entry_24 0 rfl ?_
        obtain ⟨g44, hF⟩ := gi_e hF
        refine z_iald X 1 rfl g44 dX12_entry_26 ?_
        have hF := if_e hF
        refine z_if_ne (tgt := 33) X dX12_entry_27 (by decide) (fun c76 => ?_) (fun c76 => ?_)
        · have hF := hF.2 c76
          refine z_aload_n X dX12_entry_33 rfl 1 rfl ?_
          refine z_get (v := .ref (a_t 0)) X k_X12_entry_7 0 rfl rfl dX12_entry_34 ?_
          refine z_iload X dX12_entry_37 0 rfl ?_
          refine z_iconst (v := (3 : Int32)) X dX12_entry_39 (by decide) ?_
          refine z_iadd X dX12_entry_40 ?_
          obtain ⟨g45, hF⟩ := gi_e hF
          refine z_iald X 1 rfl g45 dX12_entry_41 ?_
          refine z_aload_n X dX12_entry_42 rfl 1 rfl ?_
          refine z_get (v := .ref (a_t 0)) X k_X12_entry_7 0 rfl rfl dX12_entry_43 ?_
          refine z_iload X dX12_entry_46 0 rfl ?_
          refine z_iconst (v := (2 : Int32)) X dX12_entry_48 (by decide) ?_
          refine z_iadd X dX12_entry_49 ?_
          obtain ⟨g46, hF⟩ := gi_e hF
          refine z_iald X 1 rfl g46 dX12_entry_50 ?_
          have hF := if_e hF
          refine z_icmp_ne (tgt := 70) X dX12_entry_51 (by decide) (fun c74 => ?_) (fun c74 => ?_)
          · have hF := hF.2 c74
            refine z_aload_n X dX12_entry_70 rfl 1 rfl ?_
            refine z_get (v := .ref (a_t 0)) X k_X12_entry_7 0 rfl rfl dX12_entry_71 ?_
            refine z_iload X dX12_entry_74 0 rfl ?_
            refine z_iconst (v := (1 : Int32)) X dX12_entry_76 (by decide) ?_
            refine z_iadd X dX12_entry_77 ?_
            obtain ⟨g47, hF⟩ := gi_e hF
            refine z_iald X 1 rfl g47 dX12_entry_78 ?_
            refine z_iload_n X dX12_entry_79 rfl 2 rfl ?_
            obtain ⟨r48, hc49, hF⟩ := zb1_e hF
            refine z_Si (As := [.int (o38 0 (Int32.toNatClampNeg (x43 + (1 : Int32)))), .int v1]) (rest := []) (wc := ([] : va_W)) (wc' := ([] : va_W)) (ws' := (w_X12_four cA h_t a_t o38)) (rv := r48) X (va_cwS 2 X.2.2.2.2.1 gX12_entry_X12_isTaken rfl rfl rfl (by decide +kernel) (by rw [hR]; exact ⟨Nat.le_of_ble_eq_true rfl, Nat.le_of_ble_eq_true rfl⟩)) (fun sz => c_X12_isTaken l D cA g sz (o38 0 (Int32.toNatClampNeg (x43 + (1 : Int32)))) v1 r48 hc49) [] [0, 1, 2, 3, 4, 5, 6, 7, 8, 9, 10, 11, 12, 13, 14, 15, 16, 17, 18, 19, 20, 21] rfl (by decide) rfl (by decide) rfl rfl rfl (Nat.le_of_ble_eq_true rfl) dX12_entry_80 ⟨Nat.zero_le _, Nat.zero_le _⟩ ?_
            have hF := if_e hF
            refine z_if_ne (tgt := 102) X dX12_entry_83 (by decide) (fun c69 => ?_) (fun c69 => ?_)
            · have hF := hF.2 c69
              refine z_sipush (v := (565 : Int32)) X dX12_entry_102 (by decide) ?_
              refine z_bipush (v := (90 : Int32)) X dX12_entry_105 (by decide) ?_
              refine z_iload X dX12_entry_107 5 rfl ?_
              refine z_imul X dX12_entry_109 ?_
              refine z_iadd X dX12_entry_110 ?_
              refine z_iconst (v := (3 : Int32)) X dX12_entry_111 (by decide) ?_
              refine z_aload_n X dX12_entry_112 rfl 1 rfl ?_
              refine z_get (v := .ref (a_t 0)) X k_X12_entry_7 0 rfl rfl dX12_entry_113 ?_
              refine z_iload X dX12_entry_116 0 rfl ?_
              refine z_iconst (v := (3 : Int32)) X dX12_entry_118 (by decide) ?_
              refine z_iadd X dX12_entry_119 ?_
              obtain ⟨g50, hF⟩ := gi_e hF
              refine z_iald X 1 rfl g50 dX12_entry_120 ?_
              refine z_imul X dX12_entry_121 ?_
              refine z_iadd X dX12_entry_122 ?_
              obtain ⟨x51, ex51, hF⟩ := nx_e hF
              refine z_nm ex51 ?_
              refine z_istore (lv' := [(6, .int x51), (5, .int x43), (0, .ref h_t), (1, .int v1), (2, .int v2), (3, .int v3), (4, .int k39)]) X dX12_entry_123 (by decide) rfl ?_
              refine z_aload_n X dX12_entry_125 rfl 2 rfl ?_
              refine z_get (v := .ref (a_t 0)) X k_X12_entry_7 0 rfl rfl dX12_entry_126 ?_
              refine z_iload X dX12_entry_129 0 rfl ?_
              refine z_iload_n X dX12_entry_131 rfl 3 rfl ?_
              obtain ⟨g52, hF⟩ := gi_e hF
              obtain ⟨o53, eo53, hF⟩ := nx_e hF
              refine z_iast (ws' := (w_X12_four cA h_t a_t o53)) X 1 rfl g52 (by rw [eo53]; rfl) dX12_entry_132 ?_
              refine z_aload_n X dX12_entry_133 rfl 2 rfl ?_
              refine z_get (v := .ref (a_t 0)) X k_X12_entry_7 0 rfl rfl dX12_entry_134 ?_
              refine z_iload X dX12_entry_137 0 rfl ?_
              refine z_iconst (v := (1 : Int32)) X dX12_entry_139 (by decide) ?_
              refine z_iadd X dX12_entry_140 ?_
              refine z_iload_n X dX12_entry_141 rfl 4 rfl ?_
              obtain ⟨g54, hF⟩ := gi_e hF
              obtain ⟨o55, eo55, hF⟩ := nx_e hF
              refine z_iast (ws' := (w_X12_four cA h_t a_t o55)) X 1 rfl g54 (by rw [eo55]; rfl) dX12_entry_142 ?_
              refine z_aload_n X dX12_entry_143 rfl 2 rfl ?_
              refine z_get (v := .ref (a_t 0)) X k_X12_entry_7 0 rfl rfl dX12_entry_144 ?_
              refine z_iload X dX12_entry_147 0 rfl ?_
              refine z_iconst (v := (2 : Int32)) X dX12_entry_149 (by decide) ?_
              refine z_iadd X dX12_entry_150 ?_
              refine z_iload_n X dX12_entry_151 rfl 5 rfl ?_
              obtain ⟨g56, hF⟩ := gi_e hF
              obtain ⟨o57, eo57, hF⟩ := nx_e hF
              refine z_iast (ws' := (w_X12_four cA h_t a_t o57)) X 1 rfl g56 (by rw [eo57]; rfl) dX12_entry_152 ?_
              refine z_aload_n X dX12_entry_153 rfl 2 rfl ?_
              refine z_get (v := .ref (a_t 0)) X k_X12_entry_7 0 rfl rfl dX12_entry_154 ?_
              refine z_iload X dX12_entry_157 1 rfl ?_
              refine z_iconst (v := (3 : Int32)) X dX12_entry_159 (by decide) ?_
              refine z_iadd X dX12_entry_160 ?_
              refine z_dup2 X dX12_entry_161 rfl rfl ?_
              obtain ⟨g58, hF⟩ := gi_e hF
              refine z_iald X 1 rfl g58 dX12_entry_162 ?_
              refine z_iconst (v := (1 : Int32)) X dX12_entry_163 (by decide) ?_
              refine z_iadd X dX12_entry_164 ?_
              obtain ⟨g59, hF⟩ := gi_e hF
              obtain ⟨o60, eo60, hF⟩ := nx_e hF
              refine z_iast (ws' := (w_X12_four cA h_t a_t o60)) X 1 rfl g59 (by rw [eo60]; rfl) dX12_entry_165 ?_
              refine z_aload_n X dX12_entry_166 rfl 2 rfl ?_
              refine z_get (v := .ref (a_t 0)) X k_X12_entry_7 0 rfl rfl dX12_entry_167 ?_
              refine z_iload X dX12_entry_170 1 rfl ?_
              refine z_bipush (v := (6 : Int32)) X dX12_entry_172 (by decide) ?_
              refine z_iadd X dX12_entry_174 ?_
              refine z_dup2 X dX12_entry_175 rfl rfl ?_
              obtain ⟨g61, hF⟩ := gi_e hF
              refine z_iald X 1 rfl g61 dX12_entry_176 ?_
              refine z_iload_n X dX12_entry_177 rfl 5 rfl ?_
              refine z_iadd X dX12_entry_178 ?_
              obtain ⟨g62, hF⟩ := gi_e hF
              obtain ⟨o63, eo63, hF⟩ := nx_e hF
              refine z_iast (ws' := (w_X12_four cA h_t a_t o63)) X 1 rfl g62 (by rw [eo63]; rfl) dX12_entry_179 ?_
              obtain ⟨x64, ex64, hF⟩ := nx_e hF
              refine z_iinc (v := x64) (lv' := [(4, .int x64), (6, .int x51), (5, .int x43), (0, .ref h_t), (1, .int v1), (2, .int v2), (3, .int v3)]) (j := 6) X dX12_entry_180 rfl (by rw [ex64]; rfl) (by decide) rfl ?_
              refine z_goto (tgt := 3) X dX12_entry_183 (by decide) ?_
              cases hF
              refine z_lv (lv' := [(0, .ref h_t), (1, .int v1), (2, .int v2), (3, .int v3), (4, .int x64)]) [3, 4, 5, 6, 0] rfl ?_
              exact ih o63 x64 hL
            · have hF := hF.1 c69
              refine z_aload_n X dX12_entry_86 rfl 1 rfl ?_
              refine z_get (v := .ref (a_t 0)) X k_X12_entry_7 0 rfl rfl dX12_entry_87 ?_
              refine z_iload X dX12_entry_90 0 rfl ?_
              refine z_iconst (v := (4 : Int32)) X dX12_entry_92 (by decide) ?_
              refine z_iadd X dX12_entry_93 ?_
              refine z_dup2 X dX12_entry_94 rfl rfl ?_
              obtain ⟨g65, hF⟩ := gi_e hF
              refine z_iald X 1 rfl g65 dX12_entry_95 ?_
              refine z_iconst (v := (1 : Int32)) X dX12_entry_96 (by decide) ?_
              refine z_iadd X dX12_entry_97 ?_
              obtain ⟨g66, hF⟩ := gi_e hF
              obtain ⟨o67, eo67, hF⟩ := nx_e hF
              refine z_iast (ws' := (w_X12_four cA h_t a_t o67)) X 1 rfl g66 (by rw [eo67]; rfl) dX12_entry_98 ?_
              refine z_goto (tgt := 180) X dX12_entry_99 (by decide) ?_
              obtain ⟨x68, ex68, hF⟩ := nx_e hF
              refine z_iinc (v := x68) (lv' := [(4, .int x68), (5, .int x43), (0, .ref h_t), (1, .int v1), (2, .int v2), (3, .int v3)]) (j := 5) X dX12_entry_180 rfl (by rw [ex68]; rfl) (by decide) rfl ?_
              refine z_goto (tgt := 3) X dX12_entry_183 (by decide) ?_
              cases hF
              refine z_lv (lv' := [(0, .ref h_t), (1, .int v1), (2, .int v2), (3, .int v3), (4, .int x68)]) [2, 3, 4, 5, 0] rfl ?_
              exact ih o67 x68 hL
          · have hF := hF.1 c74
            refine z_aload_n X dX12_entry_54 rfl 1 rfl ?_
            refine z_get (v := .ref (a_t 0)) X k_X12_entry_7 0 rfl rfl dX12_entry_55 ?_
            refine z_iload X dX12_entry_58 0 rfl ?_
            refine z_iconst (v := (5 : Int32)) X dX12_entry_60 (by decide) ?_
            refine z_iadd X dX12_entry_61 ?_
            refine z_dup2 X dX12_entry_62 rfl rfl ?_
            obtain ⟨g70, hF⟩ := gi_e hF
            refine z_iald X 1 rfl g70 dX12_entry_63 ?_
            refine z_iconst (v := (1 : Int32)) X dX12_entry_64 (by decide) ?_
            refine z_iadd X dX12_entry_65 ?_
            obtain ⟨g71, hF⟩ := gi_e hF
            obtain ⟨o72, eo72, hF⟩ := nx_e hF
            refine z_iast (ws' := (w_X12_four cA h_t a_t o72)) X 1 rfl g71 (by rw [eo72]; rfl) dX12_entry_66 ?_
            refine z_goto (tgt := 180) X dX12_entry_67 (by decide) ?_
            obtain ⟨x73, ex73, hF⟩ := nx_e hF
            refine z_iinc (v := x73) (lv' := [(4, .int x73), (5, .int x43), (0, .ref h_t), (1, .int v1), (2, .int v2), (3, .int v3)]) (j := 5) X dX12_entry_180 rfl (by rw [ex73]; rfl) (by decide) rfl ?_
            refine z_goto (tgt := 3) X dX12_entry_183 (by decide) ?_
            cases hF
            refine z_lv (lv' := [(0, .ref h_t), (1, .int v1), (2, .int v2), (3, .int v3), (4, .int x73)]) [2, 3, 4, 5, 0] rfl ?_
            exact ih o72 x73 hL
        · have hF := hF.1 c76
          refine z_goto (tgt := 180) X dX12_entry_30 (by decide) ?_
          obtain ⟨x75, ex75, hF⟩ := nx_e hF
          refine z_iinc (v := x75) (lv' := [(4, .int x75), (5, .int x43), (0, .ref h_t), (1, .int v1), (2, .int v2), (3, .int v3)]) (j := 5) X dX12_entry_180 rfl (by rw [ex75]; rfl) (by decide) rfl ?_
          refine z_goto (tgt := 3) X dX12_entry_183 (by decide) ?_
          cases hF
          refine z_lv (lv' := [(0, .ref h_t), (1, .int v1), (2, .int v2), (3, .int v3), (4, .int x75)]) [2, 3, 4, 5, 0] rfl ?_
          exact ih o38 x75 hL
  refine z_lv (lv' := [(0, .ref h_t), (1, .int v1), (2, .int v2), (3, .int v3), (4, .int (0 : Int32))]) [1, 2, 3, 4, 0] rfl ?_
  exact L41 FU o_t (0 : Int32) hL
set_option maxRecDepth 20000 in
theorem h_X12_book_X12 : ∀ w ∈ wsX120, w ∈ wsX12_book := by decide +kernel
set_option maxRecDepth 20000 in
theorem k_X12_book_7 : ZF wsX12_book RX12 7 12 0 RX12 TX12 47 := ⟨rfl, by decide, h_X12_book_X12, by decide +kernel⟩
set_option maxHeartbeats 8000000 in
set_option maxRecDepth 100000 in
theorem c_X12_book (l : Launch) (D : va_G) (cA : Nat → ClassId) (g : Nat → Nat) (sz : Nat) (h_t : Nat) (a_t : Nat → Nat) (o_t : Ob) (v1 : Int32) (v2 : Int32) (v3 : Int32) (o_t' : Ob) (rv : Int32) (hF : f_X12_book o_t v1 v2 v3 = some (o_t', rv)) : Met l yX12_book wsX12_book ({ frames := 1, cells := 0, slots := 0, locals := 22 }) (va_Pc [.ref h_t, .int v1, .int v2, .int v3] (PreW D cA g sz (w_X12_four cA h_t a_t o_t))) (va_Qi (fun (r : Int32) (_ : Unit) => r = rv) (PostW D cA sz (w_X12_four cA h_t a_t o_t) (w_X12_four cA h_t a_t o_t')) (va_A (w_X12_four cA h_t a_t o_t) sz)) 0 0 (va_A (w_X12_four cA h_t a_t o_t) sz) := by
  refine z_start (cc := cX12_book) (maxL := 6) (ret := (some .int)) (lv0 := [(0, .ref h_t), (1, .int v1), (2, .int v2), (3, .int v3)]) (Qc := fun sz => va_Qi (fun (r : Int32) (_ : Unit) => r = rv) (PostW D cA sz (w_X12_four cA h_t a_t o_t) (w_X12_four cA h_t a_t o_t')) (va_A (w_X12_four cA h_t a_t o_t) sz)) (free := fun sz => va_A (w_X12_four cA h_t a_t o_t) sz) (by decide +kernel) rfl rfl (Nat.le_of_ble_eq_true rfl) ?_
  intro p e R s m args below meth c A Q hR hA hQ X hr hin
  unfold f_X12_book at hF
  refine z_iload_n X dX12_book_0 rfl 1 rfl ?_
  refine z_iconst (v := (0 : Int32)) X dX12_book_1 (by decide) ?_
  refine z_iconst (v := (2 : Int32)) X dX12_book_2 (by decide) ?_
  obtain ⟨r1, hc2, hF⟩ := zb1_e hF
  refine z_Si (As := [.int v1, .int (0 : Int32), .int (2 : Int32)]) (rest := []) (wc := ([] : va_W)) (wc' := ([] : va_W)) (ws' := (w_X12_four cA h_t a_t o_t)) (rv := r1) X (va_cwS 3 X.2.2.2.2.1 gX12_book_X12_isIn rfl rfl rfl (by decide +kernel) (by rw [hR]; exact ⟨Nat.le_of_ble_eq_true rfl, Nat.le_of_ble_eq_true rfl⟩)) (fun sz => c_X12_isIn l D cA g sz v1 (0 : Int32) (2 : Int32) r1 hc2) [] [0, 1, 2, 3, 4, 5, 6, 7, 8, 9, 10, 11, 12, 13, 14, 15, 16, 17, 18, 19, 20, 21] rfl (by decide) rfl (by decide) rfl rfl rfl (Nat.le_of_ble_eq_true rfl) dX12_book_3 ⟨Nat.zero_le _, Nat.zero_le _⟩ ?_
  have hF := if_e hF
  refine z_if_eq (tgt := 28) X dX12_book_6 (by decide) (fun c32 => ?_) (fun c32 => ?_)
  · have hF := hF.1 c32
    refine z_iconst (v := (-1 : Int32)) X dX12_book_28 (by decide) ?_
    cases hF
    exact z_iret X hA hQ hr rfl dX12_book_29 (Nat.le_refl _) (Nat.le_refl _)
  · have hF := hF.2 c32
    refine z_iload_n X dX12_book_9 rfl 2 rfl ?_
    refine z_iconst (v := (0 : Int32)) X dX12_book_10 (by decide) ?_
    refine z_iconst (v := (3 : Int32)) X dX12_book_11 (by decide) ?_
    obtain ⟨r3, hc4, hF⟩ := zb1_e hF
    refine z_Si (As := [.int v2, .int (0 : Int32), .int (3 : Int32)]) (rest := []) (wc := ([] : va_W)) (wc' := ([] : va_W)) (ws' := (w_X12_four cA h_t a_t o_t)) (rv := r3) X (va_cwS 3 X.2.2.2.2.1 gX12_book_X12_isIn rfl rfl rfl (by decide +kernel) (by rw [hR]; exact ⟨Nat.le_of_ble_eq_true rfl, Nat.le_of_ble_eq_true rfl⟩)) (fun sz => c_X12_isIn l D cA g sz v2 (0 : Int32) (3 : Int32) r3 hc4) [] [0, 1, 2, 3, 4, 5, 6, 7, 8, 9, 10, 11, 12, 13, 14, 15, 16, 17, 18, 19, 20, 21] rfl (by decide) rfl (by decide) rfl rfl rfl (Nat.le_of_ble_eq_true rfl) dX12_book_12 ⟨Nat.zero_le _, Nat.zero_le _⟩ ?_
    have hF := if_e hF
    refine z_if_eq (tgt := 28) X dX12_book_15 (by decide) (fun c31 => ?_) (fun c31 => ?_)
    · have hF := hF.1 c31
      refine z_iconst (v := (-1 : Int32)) X dX12_book_28 (by decide) ?_
      cases hF
      exact z_iret X hA hQ hr rfl dX12_book_29 (Nat.le_refl _) (Nat.le_refl _)
    · have hF := hF.2 c31
      refine z_iload_n X dX12_book_18 rfl 3 rfl ?_
      refine z_iconst (v := (0 : Int32)) X dX12_book_19 (by decide) ?_
      refine z_bipush (v := (30 : Int32)) X dX12_book_20 (by decide) ?_
      obtain ⟨r5, hc6, hF⟩ := zb1_e hF
      refine z_Si (As := [.int v3, .int (0 : Int32), .int (30 : Int32)]) (rest := []) (wc := ([] : va_W)) (wc' := ([] : va_W)) (ws' := (w_X12_four cA h_t a_t o_t)) (rv := r5) X (va_cwS 3 X.2.2.2.2.1 gX12_book_X12_isIn rfl rfl rfl (by decide +kernel) (by rw [hR]; exact ⟨Nat.le_of_ble_eq_true rfl, Nat.le_of_ble_eq_true rfl⟩)) (fun sz => c_X12_isIn l D cA g sz v3 (0 : Int32) (30 : Int32) r5 hc6) [] [0, 1, 2, 3, 4, 5, 6, 7, 8, 9, 10, 11, 12, 13, 14, 15, 16, 17, 18, 19, 20, 21] rfl (by decide) rfl (by decide) rfl rfl rfl (Nat.le_of_ble_eq_true rfl) dX12_book_22 ⟨Nat.zero_le _, Nat.zero_le _⟩ ?_
      have hF := if_e hF
      refine z_if_ne (tgt := 30) X dX12_book_25 (by decide) (fun c30 => ?_) (fun c30 => ?_)
      · have hF := hF.2 c30
        refine z_sipush (v := (544 : Int32)) X dX12_book_30 (by decide) ?_
        refine z_bipush (v := (7 : Int32)) X dX12_book_33 (by decide) ?_
        refine z_iload_n X dX12_book_35 rfl 1 rfl ?_
        refine z_imul X dX12_book_36 ?_
        refine z_iadd X dX12_book_37 ?_
        obtain ⟨x7, ex7, hF⟩ := nx_e hF
        refine z_nm ex7 ?_
        refine z_istore (lv' := [(4, .int x7), (0, .ref h_t), (1, .int v1), (2, .int v2), (3, .int v3)]) X dX12_book_38 (by decide) rfl ?_
        refine z_iconst (v := (0 : Int32)) X dX12_book_40 (by decide) ?_
        refine z_istore (lv' := [(5, .int (0 : Int32)), (4, .int x7), (0, .ref h_t), (1, .int v1), (2, .int v2), (3, .int v3)]) X dX12_book_41 (by decide) rfl ?_
        obtain ⟨o16, hL, hF⟩ := zb1_e hF
        have L23_x : ∀ (o16' : Ob), o16' = o16 → ZW p l e R s m args below meth c D A 6 0 0 Q (w_X12_four cA h_t a_t o16') [(0, .ref h_t), (2, .int v2), (3, .int v3), (4, .int x7)] 67 [] := by
          intro o16' hz
          cases hz
          refine z_aload_n X dX12_book_67 rfl 0 rfl ?_
          refine z_get (v := .ref (a_t 0)) X k_X12_book_7 0 rfl rfl dX12_book_68 ?_
          refine z_iload X dX12_book_71 3 rfl ?_
          refine z_iconst (v := (1 : Int32)) X dX12_book_73 (by decide) ?_
          obtain ⟨g17, hF⟩ := gi_e hF
          obtain ⟨o18, eo18, hF⟩ := nx_e hF
          refine z_iast (ws' := (w_X12_four cA h_t a_t o18)) X 1 rfl g17 (by rw [eo18]; rfl) dX12_book_74 ?_
          refine z_aload_n X dX12_book_75 rfl 0 rfl ?_
          refine z_get (v := .ref (a_t 0)) X k_X12_book_7 0 rfl rfl dX12_book_76 ?_
          refine z_iload X dX12_book_79 3 rfl ?_
          refine z_iconst (v := (1 : Int32)) X dX12_book_81 (by decide) ?_
          refine z_iadd X dX12_book_82 ?_
          refine z_iload_n X dX12_book_83 rfl 1 rfl ?_
          obtain ⟨g19, hF⟩ := gi_e hF
          obtain ⟨o20, eo20, hF⟩ := nx_e hF
          refine z_iast (ws' := (w_X12_four cA h_t a_t o20)) X 1 rfl g19 (by rw [eo20]; rfl) dX12_book_84 ?_
          refine z_aload_n X dX12_book_85 rfl 0 rfl ?_
          refine z_get (v := .ref (a_t 0)) X k_X12_book_7 0 rfl rfl dX12_book_86 ?_
          refine z_iload X dX12_book_89 3 rfl ?_
          refine z_iconst (v := (2 : Int32)) X dX12_book_91 (by decide) ?_
          refine z_iadd X dX12_book_92 ?_
          refine z_iload_n X dX12_book_93 rfl 2 rfl ?_
          obtain ⟨g21, hF⟩ := gi_e hF
          obtain ⟨o22, eo22, hF⟩ := nx_e hF
          refine z_iast (ws' := (w_X12_four cA h_t a_t o22)) X 1 rfl g21 (by rw [eo22]; rfl) dX12_book_94 ?_
          refine z_iconst (v := (0 : Int32)) X dX12_book_95 (by decide) ?_
          cases hF
          exact z_iret X hA hQ hr rfl dX12_book_96 (Nat.le_refl _) (Nat.le_refl _)
        obtain ⟨B29, hBB29, hL⟩ := zl2_b hL
        have L23 : ∀ (n : Nat) (o14 : Ob) (k15 : Int32), zl2 B29 n o14 k15 = some o16 → ZW p l e R s m args below meth c D A 6 0 0 Q (w_X12_four cA h_t a_t o14) [(0, .ref h_t), (2, .int v2), (3, .int v3), (4, .int x7), (5, .int k15)] 43 [] := by
          intro n
          induction n with
          | zero => intro o14 k15 hL; cases hL
          | succ n ih =>
            intro o14 k15 hL
            obtain ⟨zz24, hF, hL⟩ := zl2_e hL
            rw [hBB29] at hF
            refine z_iload X dX12_book_43 4 rfl ?_
            refine z_bipush (v := (7 : Int32)) X dX12_book_45 (by decide) ?_
            have hF := if_e hF
            refine z_icmp_ge (tgt := 67) X dX12_book_47 (by decide) (fun c28 => ?_) (fun c28 => ?_)
            · have hF := hF.1 c28
              cases hF
              have hL := Option.some.inj hL
              refine z_lv (lv' := [(0, .ref h_t), (2, .int v2), (3, .int v3), (4, .int x7)]) [0, 1, 2, 3] rfl ?_
              exact L23_x o14 hL
            · have hF := hF.2 c28
              refine z_aload_n X dX12_book_50 rfl 0 rfl ?_
              refine z_get (v := .ref (a_t 0)) X k_X12_book_7 0 rfl rfl dX12_book_51 ?_
              refine z_iload X dX12_book_54 3 rfl ?_
              refine z_iload X dX12_book_56 4 rfl ?_
              refine z_iadd X dX12_book_58 ?_
              refine z_iconst (v := (0 : Int32)) X dX12_book_59 (by decide) ?_
              obtain ⟨g25, hF⟩ := gi_e hF
              obtain ⟨o26, eo26, hF⟩ := nx_e hF
              refine z_iast (ws' := (w_X12_four cA h_t a_t o26)) X 1 rfl g25 (by rw [eo26]; rfl) dX12_book_60 ?_
              obtain ⟨x27, ex27, hF⟩ := nx_e hF
              refine z_iinc (v := x27) (lv' := [(5, .int x27), (0, .ref h_t), (2, .int v2), (3, .int v3), (4, .int x7)]) (j := 4) X dX12_book_61 rfl (by rw [ex27]; rfl) (by decide) rfl ?_
              refine z_goto (tgt := 43) X dX12_book_64 (by decide) ?_
              cases hF
              refine z_lv (lv' := [(0, .ref h_t), (2, .int v2), (3, .int v3), (4, .int x7), (5, .int x27)]) [1, 2, 3, 4, 0] rfl ?_
              exact ih o26 x27 hL
        refine z_lv (lv' := [(0, .ref h_t), (2, .int v2), (3, .int v3), (4, .int x7), (5, .int (0 : Int32))]) [2, 4, 5, 1, 0] rfl ?_
        exact L23 FU o_t (0 : Int32) hL
      · have hF := hF.1 c30
        refine z_iconst (v := (-1 : Int32)) X dX12_book_28 (by decide) ?_
        cases hF
        exact z_iret X hA hQ hr rfl dX12_book_29 (Nat.le_refl _) (Nat.le_refl _)
set_option maxRecDepth 20000 in
theorem h_X12_isOpened_X12 : ∀ w ∈ wsX120, w ∈ wsX12_isOpened := by decide +kernel
set_option maxRecDepth 20000 in
theorem k_X12_isOpened_7 : ZF wsX12_isOpened RX12 7 12 0 RX12 TX12 47 := ⟨rfl, by decide, h_X12_isOpened_X12, by decide +kernel⟩
set_option maxHeartbeats 8000000 in
set_option maxRecDepth 100000 in
theorem c_X12_isOpened (l : Launch) (D : va_G) (cA : Nat → ClassId) (g : Nat → Nat) (sz : Nat) (h_t : Nat) (a_t : Nat → Nat) (o_t : Ob) (v1 : Int32) (rv : Int32) (hF : f_X12_isOpened o_t v1 = some rv) : Met l yX12_isOpened wsX12_isOpened ({ frames := 1, cells := 0, slots := 0, locals := 22 }) (va_Pc [.ref h_t, .int v1] (PreW D cA g sz (w_X12_four cA h_t a_t o_t))) (va_Qi (fun (r : Int32) (_ : Unit) => r = rv) (PostW D cA sz (w_X12_four cA h_t a_t o_t) (w_X12_four cA h_t a_t o_t)) (va_A (w_X12_four cA h_t a_t o_t) sz)) 0 0 (va_A (w_X12_four cA h_t a_t o_t) sz) := by
  refine z_start (cc := cX12_isOpened) (maxL := 2) (ret := (some .boolean)) (lv0 := [(0, .ref h_t), (1, .int v1)]) (Qc := fun sz => va_Qi (fun (r : Int32) (_ : Unit) => r = rv) (PostW D cA sz (w_X12_four cA h_t a_t o_t) (w_X12_four cA h_t a_t o_t)) (va_A (w_X12_four cA h_t a_t o_t) sz)) (free := fun sz => va_A (w_X12_four cA h_t a_t o_t) sz) (by decide +kernel) rfl rfl (Nat.le_of_ble_eq_true rfl) ?_
  intro p e R s m args below meth c A Q hR hA hQ X hr hin
  unfold f_X12_isOpened at hF
  refine z_iload_n X dX12_isOpened_0 rfl 1 rfl ?_
  refine z_iconst (v := (0 : Int32)) X dX12_isOpened_1 (by decide) ?_
  refine z_iconst (v := (2 : Int32)) X dX12_isOpened_2 (by decide) ?_
  obtain ⟨r1, hc2, hF⟩ := zb1_e hF
  refine z_Si (As := [.int v1, .int (0 : Int32), .int (2 : Int32)]) (rest := []) (wc := ([] : va_W)) (wc' := ([] : va_W)) (ws' := (w_X12_four cA h_t a_t o_t)) (rv := r1) X (va_cwS 3 X.2.2.2.2.1 gX12_isOpened_X12_isIn rfl rfl rfl (by decide +kernel) (by rw [hR]; exact ⟨Nat.le_of_ble_eq_true rfl, Nat.le_of_ble_eq_true rfl⟩)) (fun sz => c_X12_isIn l D cA g sz v1 (0 : Int32) (2 : Int32) r1 hc2) [] [0, 1, 2, 3, 4, 5, 6, 7, 8, 9, 10, 11, 12, 13, 14, 15, 16, 17, 18, 19, 20, 21] rfl (by decide) rfl (by decide) rfl rfl rfl (Nat.le_of_ble_eq_true rfl) dX12_isOpened_3 ⟨Nat.zero_le _, Nat.zero_le _⟩ ?_
  have hF := if_e hF
  refine z_if_eq (tgt := 30) X dX12_isOpened_6 (by decide) (fun c5 => ?_) (fun c5 => ?_)
  · have hF := hF.1 c5
    refine z_iconst (v := (0 : Int32)) X dX12_isOpened_30 (by decide) ?_
    cases hF
    exact z_zret X hA hQ hr (Or.inl rfl)  rfl dX12_isOpened_31 (Nat.le_refl _) (Nat.le_refl _)
  · have hF := hF.2 c5
    refine z_aload_n X dX12_isOpened_9 rfl 0 rfl ?_
    refine z_get (v := .ref (a_t 0)) X k_X12_isOpened_7 0 rfl rfl dX12_isOpened_10 ?_
    refine z_sipush (v := (544 : Int32)) X dX12_isOpened_13 (by decide) ?_
    refine z_bipush (v := (7 : Int32)) X dX12_isOpened_16 (by decide) ?_
    refine z_iload_n X dX12_isOpened_18 rfl 1 rfl ?_
    refine z_imul X dX12_isOpened_19 ?_
    refine z_iadd X dX12_isOpened_20 ?_
    obtain ⟨g3, hF⟩ := gi_e hF
    refine z_iald X 1 rfl g3 dX12_isOpened_21 ?_
    refine z_iconst (v := (1 : Int32)) X dX12_isOpened_22 (by decide) ?_
    have hF := if_e hF
    refine z_icmp_ne (tgt := 30) X dX12_isOpened_23 (by decide) (fun c4 => ?_) (fun c4 => ?_)
    · have hF := hF.2 c4
      refine z_iconst (v := (0 : Int32)) X dX12_isOpened_30 (by decide) ?_
      cases hF
      exact z_zret X hA hQ hr (Or.inl rfl)  rfl dX12_isOpened_31 (Nat.le_refl _) (Nat.le_refl _)
    · have hF := hF.1 c4
      refine z_iconst (v := (1 : Int32)) X dX12_isOpened_26 (by decide) ?_
      refine z_goto (tgt := 31) X dX12_isOpened_27 (by decide) ?_
      cases hF
      exact z_zret X hA hQ hr (Or.inr rfl)  rfl dX12_isOpened_31 (Nat.le_refl _) (Nat.le_refl _)
set_option maxRecDepth 20000 in
theorem h_X12_booked_X12 : ∀ w ∈ wsX120, w ∈ wsX12_booked := by decide +kernel
set_option maxRecDepth 20000 in
theorem k_X12_booked_7 : ZF wsX12_booked RX12 7 12 0 RX12 TX12 47 := ⟨rfl, by decide, h_X12_booked_X12, by decide +kernel⟩
set_option maxHeartbeats 8000000 in
set_option maxRecDepth 100000 in
theorem c_X12_booked (l : Launch) (D : va_G) (cA : Nat → ClassId) (g : Nat → Nat) (sz : Nat) (h_t : Nat) (a_t : Nat → Nat) (o_t : Ob) (v1 : Int32) (v2 : Int32) (rv : Int32) (hF : f_X12_booked o_t v1 v2 = some rv) : Met l yX12_booked wsX12_booked ({ frames := 2, cells := 0, slots := 0, locals := 43 }) (va_Pc [.ref h_t, .int v1, .int v2] (PreW D cA g sz (w_X12_four cA h_t a_t o_t))) (va_Qi (fun (r : Int32) (_ : Unit) => r = rv) (PostW D cA sz (w_X12_four cA h_t a_t o_t) (w_X12_four cA h_t a_t o_t)) (va_A (w_X12_four cA h_t a_t o_t) sz)) 0 0 (va_A (w_X12_four cA h_t a_t o_t) sz) := by
  refine z_start (cc := cX12_booked) (maxL := 4) (ret := (some .int)) (lv0 := [(0, .ref h_t), (1, .int v1), (2, .int v2)]) (Qc := fun sz => va_Qi (fun (r : Int32) (_ : Unit) => r = rv) (PostW D cA sz (w_X12_four cA h_t a_t o_t) (w_X12_four cA h_t a_t o_t)) (va_A (w_X12_four cA h_t a_t o_t) sz)) (free := fun sz => va_A (w_X12_four cA h_t a_t o_t) sz) (by decide +kernel) rfl rfl (Nat.le_of_ble_eq_true rfl) ?_
  intro p e R s m args below meth c A Q hR hA hQ X hr hin
  unfold f_X12_booked at hF
  refine z_aload_n X dX12_booked_0 rfl 0 rfl ?_
  refine z_iload_n X dX12_booked_1 rfl 1 rfl ?_
  obtain ⟨r1, hc2, hF⟩ := zb1_e hF
  refine z_Vi (As := [.int v1]) (rest := []) (wc := (w_X12_four cA h_t a_t o_t)) (wc' := (w_X12_four cA h_t a_t o_t)) (ws' := (w_X12_four cA h_t a_t o_t)) (rv := r1) X (cwV 1 X.2.2.2.2.1 gX12_booked_X12_isOpened rfl rfl rfl (by decide +kernel) (by rw [hR]; exact ⟨Nat.le_of_ble_eq_true rfl, Nat.le_of_ble_eq_true rfl⟩)) (fun sz => c_X12_isOpened l D cA g sz h_t a_t o_t v1 r1 hc2) [0, 1, 2, 3, 4, 5, 6, 7, 8, 9, 10, 11, 12, 13, 14, 15, 16, 17, 18, 19, 20, 21] [1000, 1001, 1002, 1003, 1004, 1005, 1006, 1007, 1008, 1009, 1010, 1011, 1012, 1013, 1014, 1015, 1016, 1017, 1018, 1019, 1020, 1021] rfl (by decide) rfl (by decide) rfl rfl rfl rfl rfl rfl (Nat.le_of_ble_eq_true rfl) dX12_booked_2 ⟨Nat.zero_le _, Nat.zero_le _⟩ ?_
  have hF := if_e hF
  refine z_if_ne (tgt := 10) X dX12_booked_5 (by decide) (fun c16 => ?_) (fun c16 => ?_)
  · have hF := hF.2 c16
    refine z_sipush (v := (544 : Int32)) X dX12_booked_10 (by decide) ?_
    refine z_bipush (v := (7 : Int32)) X dX12_booked_13 (by decide) ?_
    refine z_iload_n X dX12_booked_15 rfl 1 rfl ?_
    refine z_imul X dX12_booked_16 ?_
    refine z_iadd X dX12_booked_17 ?_
    obtain ⟨x3, ex3, hF⟩ := nx_e hF
    refine z_nm ex3 ?_
    refine z_istore_n (lv' := [(3, .int x3), (0, .ref h_t), (1, .int v1), (2, .int v2)]) X dX12_booked_18 rfl (by decide) rfl ?_
    refine z_iload_n X dX12_booked_19 rfl 3 rfl ?_
    have hF := if_e hF
    by_cases c5 : v2 = (0 : Int32)
    · have hF := hF.1 c5
      refine z_tableIn (tgt := 60) X dX12_booked_20 (by rw [c5]; decide) (by rw [c5]; decide) (by rw [c5]; rfl) (by decide) ?_
      refine z_aload_n X dX12_booked_60 rfl 1 rfl ?_
      refine z_get (v := .ref (a_t 0)) X k_X12_booked_7 0 rfl rfl dX12_booked_61 ?_
      refine z_iload_n X dX12_booked_64 rfl 0 rfl ?_
      refine z_iconst (v := (3 : Int32)) X dX12_booked_65 (by decide) ?_
      refine z_iadd X dX12_booked_66 ?_
      obtain ⟨g4, hF⟩ := gi_e hF
      refine z_iald X 1 rfl g4 dX12_booked_67 ?_
      cases hF
      exact z_iret X hA hQ hr rfl dX12_booked_68 (Nat.le_refl _) (Nat.le_refl _)
    have hF := hF.2 c5
    have tc5 : Int32.toInt v2 ≠ 0 := ne_t c5
    have hF := if_e hF
    by_cases c7 : v2 = (1 : Int32)
    · have hF := hF.1 c7
      refine z_tableIn (tgt := 69) X dX12_booked_20 (by rw [c7]; decide) (by rw [c7]; decide) (by rw [c7]; rfl) (by decide) ?_
      refine z_aload_n X dX12_booked_69 rfl 1 rfl ?_
      refine z_get (v := .ref (a_t 0)) X k_X12_booked_7 0 rfl rfl dX12_booked_70 ?_
      refine z_iload_n X dX12_booked_73 rfl 0 rfl ?_
      refine z_iconst (v := (4 : Int32)) X dX12_booked_74 (by decide) ?_
      refine z_iadd X dX12_booked_75 ?_
      obtain ⟨g6, hF⟩ := gi_e hF
      refine z_iald X 1 rfl g6 dX12_booked_76 ?_
      cases hF
      exact z_iret X hA hQ hr rfl dX12_booked_77 (Nat.le_refl _) (Nat.le_refl _)
    have hF := hF.2 c7
    have tc7 : Int32.toInt v2 ≠ 1 := ne_t c7
    have hF := if_e hF
    by_cases c9 : v2 = (2 : Int32)
    · have hF := hF.1 c9
      refine z_tableIn (tgt := 78) X dX12_booked_20 (by rw [c9]; decide) (by rw [c9]; decide) (by rw [c9]; rfl) (by decide) ?_
      refine z_aload_n X dX12_booked_78 rfl 1 rfl ?_
      refine z_get (v := .ref (a_t 0)) X k_X12_booked_7 0 rfl rfl dX12_booked_79 ?_
      refine z_iload_n X dX12_booked_82 rfl 0 rfl ?_
      refine z_iconst (v := (5 : Int32)) X dX12_booked_83 (by decide) ?_
      refine z_iadd X dX12_booked_84 ?_
      obtain ⟨g8, hF⟩ := gi_e hF
      refine z_iald X 1 rfl g8 dX12_booked_85 ?_
      cases hF
      exact z_iret X hA hQ hr rfl dX12_booked_86 (Nat.le_refl _) (Nat.le_refl _)
    have hF := hF.2 c9
    have tc9 : Int32.toInt v2 ≠ 2 := ne_t c9
    have hF := if_e hF
    by_cases c11 : v2 = (3 : Int32)
    · have hF := hF.1 c11
      refine z_tableIn (tgt := 87) X dX12_booked_20 (by rw [c11]; decide) (by rw [c11]; decide) (by rw [c11]; rfl) (by decide) ?_
      refine z_aload_n X dX12_booked_87 rfl 1 rfl ?_
      refine z_get (v := .ref (a_t 0)) X k_X12_booked_7 0 rfl rfl dX12_booked_88 ?_
      refine z_iload_n X dX12_booked_91 rfl 0 rfl ?_
      refine z_bipush (v := (6 : Int32)) X dX12_booked_92 (by decide) ?_
      refine z_iadd X dX12_booked_94 ?_
      obtain ⟨g10, hF⟩ := gi_e hF
      refine z_iald X 1 rfl g10 dX12_booked_95 ?_
      cases hF
      exact z_iret X hA hQ hr rfl dX12_booked_96 (Nat.le_refl _) (Nat.le_refl _)
    have hF := hF.2 c11
    have tc11 : Int32.toInt v2 ≠ 3 := ne_t c11
    have hF := if_e hF
    by_cases c13 : v2 = (4 : Int32)
    · have hF := hF.1 c13
      refine z_tableIn (tgt := 97) X dX12_booked_20 (by rw [c13]; decide) (by rw [c13]; decide) (by rw [c13]; rfl) (by decide) ?_
      refine z_aload_n X dX12_booked_97 rfl 1 rfl ?_
      refine z_get (v := .ref (a_t 0)) X k_X12_booked_7 0 rfl rfl dX12_booked_98 ?_
      refine z_iload_n X dX12_booked_101 rfl 0 rfl ?_
      refine z_iconst (v := (1 : Int32)) X dX12_booked_102 (by decide) ?_
      refine z_iadd X dX12_booked_103 ?_
      obtain ⟨g12, hF⟩ := gi_e hF
      refine z_iald X 1 rfl g12 dX12_booked_104 ?_
      cases hF
      exact z_iret X hA hQ hr rfl dX12_booked_105 (Nat.le_refl _) (Nat.le_refl _)
    have hF := hF.2 c13
    have tc13 : Int32.toInt v2 ≠ 4 := ne_t c13
    have hF := if_e hF
    by_cases c15 : v2 = (5 : Int32)
    · have hF := hF.1 c15
      refine z_tableIn (tgt := 106) X dX12_booked_20 (by rw [c15]; decide) (by rw [c15]; decide) (by rw [c15]; rfl) (by decide) ?_
      refine z_aload_n X dX12_booked_106 rfl 1 rfl ?_
      refine z_get (v := .ref (a_t 0)) X k_X12_booked_7 0 rfl rfl dX12_booked_107 ?_
      refine z_iload_n X dX12_booked_110 rfl 0 rfl ?_
      refine z_iconst (v := (2 : Int32)) X dX12_booked_111 (by decide) ?_
      refine z_iadd X dX12_booked_112 ?_
      obtain ⟨g14, hF⟩ := gi_e hF
      refine z_iald X 1 rfl g14 dX12_booked_113 ?_
      cases hF
      exact z_iret X hA hQ hr rfl dX12_booked_114 (Nat.le_refl _) (Nat.le_refl _)
    have hF := hF.2 c15
    have tc15 : Int32.toInt v2 ≠ 5 := ne_t c15
    refine z_tableOut (tgt := 115) X dX12_booked_20 (by omega) (by decide) ?_
    refine z_iconst (v := (-1 : Int32)) X dX12_booked_115 (by decide) ?_
    cases hF
    exact z_iret X hA hQ hr rfl dX12_booked_116 (Nat.le_refl _) (Nat.le_refl _)
  · have hF := hF.1 c16
    refine z_iconst (v := (-1 : Int32)) X dX12_booked_8 (by decide) ?_
    cases hF
    exact z_iret X hA hQ hr rfl dX12_booked_9 (Nat.le_refl _) (Nat.le_refl _)
set_option maxRecDepth 20000 in
theorem h_X12_line_X12 : ∀ w ∈ wsX120, w ∈ wsX12_line := by decide +kernel
set_option maxRecDepth 20000 in
theorem k_X12_line_7 : ZF wsX12_line RX12 7 12 0 RX12 TX12 47 := ⟨rfl, by decide, h_X12_line_X12, by decide +kernel⟩
set_option maxHeartbeats 8000000 in
set_option maxRecDepth 100000 in
theorem c_X12_line (l : Launch) (D : va_G) (cA : Nat → ClassId) (g : Nat → Nat) (sz : Nat) (h_t : Nat) (a_t : Nat → Nat) (o_t : Ob) (v1 : Int32) (v2 : Int32) (v3 : Int32) (rv : Int32) (hF : f_X12_line o_t v1 v2 v3 = some rv) : Met l yX12_line wsX12_line ({ frames := 2, cells := 0, slots := 0, locals := 43 }) (va_Pc [.ref h_t, .int v1, .int v2, .int v3] (PreW D cA g sz (w_X12_four cA h_t a_t o_t))) (va_Qi (fun (r : Int32) (_ : Unit) => r = rv) (PostW D cA sz (w_X12_four cA h_t a_t o_t) (w_X12_four cA h_t a_t o_t)) (va_A (w_X12_four cA h_t a_t o_t) sz)) 0 0 (va_A (w_X12_four cA h_t a_t o_t) sz) := by
  refine z_start (cc := cX12_line) (maxL := 4) (ret := (some .int)) (lv0 := [(0, .ref h_t), (1, .int v1), (2, .int v2), (3, .int v3)]) (Qc := fun sz => va_Qi (fun (r : Int32) (_ : Unit) => r = rv) (PostW D cA sz (w_X12_four cA h_t a_t o_t) (w_X12_four cA h_t a_t o_t)) (va_A (w_X12_four cA h_t a_t o_t) sz)) (free := fun sz => va_A (w_X12_four cA h_t a_t o_t) sz) (by decide +kernel) rfl rfl (Nat.le_of_ble_eq_true rfl) ?_
  intro p e R s m args below meth c A Q hR hA hQ X hr hin
  unfold f_X12_line at hF
  refine z_aload_n X dX12_line_0 rfl 0 rfl ?_
  refine z_iload_n X dX12_line_1 rfl 1 rfl ?_
  obtain ⟨r1, hc2, hF⟩ := zb1_e hF
  refine z_Vi (As := [.int v1]) (rest := []) (wc := (w_X12_four cA h_t a_t o_t)) (wc' := (w_X12_four cA h_t a_t o_t)) (ws' := (w_X12_four cA h_t a_t o_t)) (rv := r1) X (cwV 1 X.2.2.2.2.1 gX12_line_X12_isOpened rfl rfl rfl (by decide +kernel) (by rw [hR]; exact ⟨Nat.le_of_ble_eq_true rfl, Nat.le_of_ble_eq_true rfl⟩)) (fun sz => c_X12_isOpened l D cA g sz h_t a_t o_t v1 r1 hc2) [0, 1, 2, 3, 4, 5, 6, 7, 8, 9, 10, 11, 12, 13, 14, 15, 16, 17, 18, 19, 20, 21] [1000, 1001, 1002, 1003, 1004, 1005, 1006, 1007, 1008, 1009, 1010, 1011, 1012, 1013, 1014, 1015, 1016, 1017, 1018, 1019, 1020, 1021] rfl (by decide) rfl (by decide) rfl rfl rfl rfl rfl rfl (Nat.le_of_ble_eq_true rfl) dX12_line_2 ⟨Nat.zero_le _, Nat.zero_le _⟩ ?_
  have hF := if_e hF
  refine z_if_eq (tgt := 64) X dX12_line_5 (by decide) (fun c11 => ?_) (fun c11 => ?_)
  · have hF := hF.1 c11
    refine z_iconst (v := (-1 : Int32)) X dX12_line_64 (by decide) ?_
    cases hF
    exact z_iret X hA hQ hr rfl dX12_line_65 (Nat.le_refl _) (Nat.le_refl _)
  · have hF := hF.2 c11
    refine z_iload_n X dX12_line_8 rfl 2 rfl ?_
    refine z_iconst (v := (0 : Int32)) X dX12_line_9 (by decide) ?_
    refine z_aload_n X dX12_line_10 rfl 0 rfl ?_
    refine z_get (v := .ref (a_t 0)) X k_X12_line_7 0 rfl rfl dX12_line_11 ?_
    refine z_sipush (v := (544 : Int32)) X dX12_line_14 (by decide) ?_
    refine z_bipush (v := (7 : Int32)) X dX12_line_17 (by decide) ?_
    refine z_iload_n X dX12_line_19 rfl 1 rfl ?_
    refine z_imul X dX12_line_20 ?_
    refine z_iadd X dX12_line_21 ?_
    refine z_iconst (v := (3 : Int32)) X dX12_line_22 (by decide) ?_
    refine z_iadd X dX12_line_23 ?_
    obtain ⟨g3, hF⟩ := gi_e hF
    refine z_iald X 1 rfl g3 dX12_line_24 ?_
    refine z_iconst (v := (1 : Int32)) X dX12_line_25 (by decide) ?_
    refine z_isub X dX12_line_26 ?_
    obtain ⟨r4, hc5, hF⟩ := zb1_e hF
    refine z_Si (As := [.int v2, .int (0 : Int32), .int ((o_t 0 (Int32.toNatClampNeg (((544 : Int32) + ((7 : Int32) * v1)) + (3 : Int32)))) - (1 : Int32))]) (rest := []) (wc := ([] : va_W)) (wc' := ([] : va_W)) (ws' := (w_X12_four cA h_t a_t o_t)) (rv := r4) X (va_cwS 3 X.2.2.2.2.1 gX12_line_X12_isIn rfl rfl rfl (by decide +kernel) (by rw [hR]; exact ⟨Nat.le_of_ble_eq_true rfl, Nat.le_of_ble_eq_true rfl⟩)) (fun sz => c_X12_isIn l D cA g sz v2 (0 : Int32) ((o_t 0 (Int32.toNatClampNeg (((544 : Int32) + ((7 : Int32) * v1)) + (3 : Int32)))) - (1 : Int32)) r4 hc5) [] [0, 1, 2, 3, 4, 5, 6, 7, 8, 9, 10, 11, 12, 13, 14, 15, 16, 17, 18, 19, 20, 21] rfl (by decide) rfl (by decide) rfl rfl rfl (Nat.le_of_ble_eq_true rfl) dX12_line_27 ⟨Nat.zero_le _, Nat.zero_le _⟩ ?_
    have hF := if_e hF
    refine z_if_eq (tgt := 64) X dX12_line_30 (by decide) (fun c10 => ?_) (fun c10 => ?_)
    · have hF := hF.1 c10
      refine z_iconst (v := (-1 : Int32)) X dX12_line_64 (by decide) ?_
      cases hF
      exact z_iret X hA hQ hr rfl dX12_line_65 (Nat.le_refl _) (Nat.le_refl _)
    · have hF := hF.2 c10
      refine z_iload_n X dX12_line_33 rfl 3 rfl ?_
      refine z_iconst (v := (0 : Int32)) X dX12_line_34 (by decide) ?_
      refine z_iconst (v := (2 : Int32)) X dX12_line_35 (by decide) ?_
      obtain ⟨r6, hc7, hF⟩ := zb1_e hF
      refine z_Si (As := [.int v3, .int (0 : Int32), .int (2 : Int32)]) (rest := []) (wc := ([] : va_W)) (wc' := ([] : va_W)) (ws' := (w_X12_four cA h_t a_t o_t)) (rv := r6) X (va_cwS 3 X.2.2.2.2.1 gX12_line_X12_isIn rfl rfl rfl (by decide +kernel) (by rw [hR]; exact ⟨Nat.le_of_ble_eq_true rfl, Nat.le_of_ble_eq_true rfl⟩)) (fun sz => c_X12_isIn l D cA g sz v3 (0 : Int32) (2 : Int32) r6 hc7) [] [0, 1, 2, 3, 4, 5, 6, 7, 8, 9, 10, 11, 12, 13, 14, 15, 16, 17, 18, 19, 20, 21] rfl (by decide) rfl (by decide) rfl rfl rfl (Nat.le_of_ble_eq_true rfl) dX12_line_36 ⟨Nat.zero_le _, Nat.zero_le _⟩ ?_
      have hF := if_e hF
      refine z_if_eq (tgt := 64) X dX12_line_39 (by decide) (fun c9 => ?_) (fun c9 => ?_)
      · have hF := hF.1 c9
        refine z_iconst (v := (-1 : Int32)) X dX12_line_64 (by decide) ?_
        cases hF
        exact z_iret X hA hQ hr rfl dX12_line_65 (Nat.le_refl _) (Nat.le_refl _)
      · have hF := hF.2 c9
        refine z_aload_n X dX12_line_42 rfl 0 rfl ?_
        refine z_get (v := .ref (a_t 0)) X k_X12_line_7 0 rfl rfl dX12_line_43 ?_
        refine z_sipush (v := (565 : Int32)) X dX12_line_46 (by decide) ?_
        refine z_bipush (v := (90 : Int32)) X dX12_line_49 (by decide) ?_
        refine z_iload_n X dX12_line_51 rfl 1 rfl ?_
        refine z_imul X dX12_line_52 ?_
        refine z_iadd X dX12_line_53 ?_
        refine z_iconst (v := (3 : Int32)) X dX12_line_54 (by decide) ?_
        refine z_iload_n X dX12_line_55 rfl 2 rfl ?_
        refine z_imul X dX12_line_56 ?_
        refine z_iadd X dX12_line_57 ?_
        refine z_iload_n X dX12_line_58 rfl 3 rfl ?_
        refine z_iadd X dX12_line_59 ?_
        obtain ⟨g8, hF⟩ := gi_e hF
        refine z_iald X 1 rfl g8 dX12_line_60 ?_
        refine z_goto (tgt := 65) X dX12_line_61 (by decide) ?_
        cases hF
        exact z_iret X hA hQ hr rfl dX12_line_65 (Nat.le_refl _) (Nat.le_refl _)
