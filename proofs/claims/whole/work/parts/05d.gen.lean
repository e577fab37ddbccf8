set_option maxRecDepth 20000 in
theorem h_X12_readsSteps_X12 : ∀ w ∈ wsX120, w ∈ wsX12_readsSteps := by decide +kernel
set_option maxRecDepth 20000 in
theorem k_X12_readsSteps_7 : ZF wsX12_readsSteps RX12 7 12 0 RX12 TX12 47 := ⟨rfl, by decide, h_X12_readsSteps_X12, by decide +kernel⟩
set_option maxRecDepth 20000 in
theorem k_X12_readsSteps_36 : ZF wsX12_readsSteps RX12 36 12 22 RX12 TX12 47 := ⟨rfl, by decide, h_X12_readsSteps_X12, by decide +kernel⟩
set_option maxRecDepth 20000 in
theorem k_X12_readsSteps_39 : ZF wsX12_readsSteps RX12 39 12 23 RX12 TX12 47 := ⟨rfl, by decide, h_X12_readsSteps_X12, by decide +kernel⟩
set_option maxRecDepth 20000 in
theorem k_X12_readsSteps_42 : ZF wsX12_readsSteps RX12 42 12 24 RX12 TX12 47 := ⟨rfl, by decide, h_X12_readsSteps_X12, by decide +kernel⟩
set_option maxRecDepth 20000 in
theorem k_X12_readsSteps_110 : ZF wsX12_readsSteps RX12 110 12 12 RX12 TX12 47 := ⟨rfl, by decide, h_X12_readsSteps_X12, by decide +kernel⟩
set_option maxRecDepth 20000 in
theorem k_X12_readsSteps_113 : ZF wsX12_readsSteps RX12 113 12 11 RX12 TX12 47 := ⟨rfl, by decide, h_X12_readsSteps_X12, by decide +kernel⟩
set_option maxRecDepth 20000 in
theorem k_X12_readsSteps_254 : ZF wsX12_readsSteps RX12 254 12 26 RX12 TX12 47 := ⟨rfl, by decide, h_X12_readsSteps_X12, by decide +kernel⟩
set_option maxRecDepth 20000 in
theorem k_X12_readsSteps_257 : ZF wsX12_readsSteps RX12 257 12 27 RX12 TX12 47 := ⟨rfl, by decide, h_X12_readsSteps_X12, by decide +kernel⟩
set_option maxHeartbeats 8000000 in
set_option maxRecDepth 100000 in
theorem c_X12_readsSteps (l : Launch) (D : va_G) (cA : Nat → ClassId) (g : Nat → Nat) (sz : Nat) (h_t : Nat) (a_t : Nat → Nat) (o_t : Ob)  (o_t' : Ob) (rv : Int32) (hF : f_X12_readsSteps o_t = some (o_t', rv)) : Met l yX12_readsSteps wsX12_readsSteps ({ frames := 4, cells := 0, slots := 0, locals := 85 }) (va_Pc [.ref h_t] (PreW D cA g sz (w_X12_four cA h_t a_t o_t))) (va_Qi (fun (r : Int32) (_ : Unit) => r = rv) (PostW D cA sz (w_X12_four cA h_t a_t o_t) (w_X12_four cA h_t a_t o_t')) (va_A (w_X12_four cA h_t a_t o_t) sz)) 0 0 (va_A (w_X12_four cA h_t a_t o_t) sz) := by
  refine z_start (cc := cX12_readsSteps) (maxL := 2) (ret := (some .boolean)) (lv0 := [(0, .ref h_t)]) (Qc := fun sz => va_Qi (fun (r : Int32) (_ : Unit) => r = rv) (PostW D cA sz (w_X12_four cA h_t a_t o_t) (w_X12_four cA h_t a_t o_t')) (va_A (w_X12_four cA h_t a_t o_t) sz)) (free := fun sz => va_A (w_X12_four cA h_t a_t o_t) sz) (by decide +kernel) rfl rfl (Nat.le_of_ble_eq_true rfl) ?_
  intro p e R s m args below meth c A Q hR hA hQ X hr hin
  unfold f_X12_readsSteps at hF
  refine z_aload_n X dX12_readsSteps_0 rfl 0 rfl ?_
  obtain ⟨o1, r2, hc3, hF⟩ := zb2_e hF
  refine z_Vi (As := []) (rest := []) (wc := (w_X12_four cA h_t a_t o_t)) (wc' := (w_X12_four cA h_t a_t o1)) (ws' := (w_X12_four cA h_t a_t o1)) (rv := r2) X (cwV 0 X.2.2.2.2.1 gX12_readsSteps_X12_takes rfl rfl rfl (by decide +kernel) (by rw [hR]; exact ⟨Nat.le_of_ble_eq_true rfl, Nat.le_of_ble_eq_true rfl⟩)) (fun sz => c_X12_takes l D cA g sz h_t a_t o_t o1 r2 hc3) [0, 1, 2, 3, 4, 5, 6, 7, 8, 9, 10, 11, 12, 13, 14, 15, 16, 17, 18, 19, 20, 21] [1000, 1001, 1002, 1003, 1004, 1005, 1006, 1007, 1008, 1009, 1010, 1011, 1012, 1013, 1014, 1015, 1016, 1017, 1018, 1019, 1020, 1021] rfl (by decide) rfl (by decide) rfl rfl rfl rfl rfl rfl (Nat.le_of_ble_eq_true rfl) dX12_readsSteps_1 ⟨Nat.zero_le _, Nat.zero_le _⟩ ?_
  have hF := if_e hF
  refine z_if_ne (tgt := 9) X dX12_readsSteps_4 (by decide) (fun c212 => ?_) (fun c212 => ?_)
  · have hF := hF.2 c212
    refine z_aload_n X dX12_readsSteps_9 rfl 0 rfl ?_
    refine z_iconst (v := (0 : Int32)) X dX12_readsSteps_10 (by decide) ?_
    obtain ⟨o4, eo4, hF⟩ := nx_e hF
    refine z_put (ws' := (w_X12_four cA h_t a_t o4)) X k_X12_readsSteps_254 tyX12 tyX12_ok nmX12 rfl rfl 0 rfl (Nat.le_of_ble_eq_true rfl) (by rw [eo4]; rfl) dX12_readsSteps_11 ?_
    refine z_aload_n X dX12_readsSteps_14 rfl 0 rfl ?_
    refine z_iconst (v := (0 : Int32)) X dX12_readsSteps_15 (by decide) ?_
    obtain ⟨o5, eo5, hF⟩ := nx_e hF
    refine z_put (ws' := (w_X12_four cA h_t a_t o5)) X k_X12_readsSteps_257 tyX12 tyX12_ok nmX12 rfl rfl 0 rfl (Nat.le_of_ble_eq_true rfl) (by rw [eo5]; rfl) dX12_readsSteps_16 ?_
    obtain ⟨z210, hL, hFx, L105_r⟩ := ze1_e hF
    have L105_x : ∀ (o104 : Ob), z210 = .inl o104 → ZW p l e R s m args below meth c D A 2 0 0 Q (w_X12_four cA h_t a_t o104) [] 294 [] := by
      intro o104 hz
      have hF := hFx o104 hz
      refine z_iconst (v := (1 : Int32)) X dX12_readsSteps_294 (by decide) ?_
      cases hF
      exact z_zret X hA hQ hr (Or.inr rfl)  rfl dX12_readsSteps_295 (Nat.le_refl _) (Nat.le_refl _)
    obtain ⟨B211, hBB211, hL⟩ := zl1_b hL
    have L105 : ∀ (n : Nat) (o103 : Ob), zl1 B211 n o103 = some z210 → ZW p l e R s m args below meth c D A 2 0 0 Q (w_X12_four cA h_t a_t o103) [(0, .ref h_t)] 19 [] := by
      intro n
      induction n with
      | zero => intro o103 hL; cases hL
      | succ n ih =>
        intro o103 hL
        obtain ⟨zz106, hF, hL⟩ := zl1_e hL
        rw [hBB211] at hF
        refine z_aload_n X dX12_readsSteps_19 rfl 0 rfl ?_
        refine z_get (v := .int (o103 11 0)) X k_X12_readsSteps_113 0 rfl rfl dX12_readsSteps_20 ?_
        obtain ⟨K109, eK109, hF⟩ := nx_e hF
        have K109_l : ∀ (_ : Unit), K109 () = some zz106 → ZW p l e R s m args below meth c D A 2 0 0 Q (w_X12_four cA h_t a_t o103) [(0, .ref h_t)] 33 [] := by
          intro _ hF
          rw [eK109] at hF
          refine z_aload_n X dX12_readsSteps_33 rfl 0 rfl ?_
          refine z_get (v := .int (o103 27 0)) X k_X12_readsSteps_257 0 rfl rfl dX12_readsSteps_34 ?_
          obtain ⟨K129, eK129, hF⟩ := nx_e hF
          have K129_l : ∀ (_ : Unit), K129 () = some zz106 → ZW p l e R s m args below meth c D A 2 0 0 Q (w_X12_four cA h_t a_t o103) [(0, .ref h_t)] 103 [] := by
            intro _ hF
            rw [eK129] at hF
            refine z_aload_n X dX12_readsSteps_103 rfl 0 rfl ?_
            refine z_iconst (v := (3 : Int32)) X dX12_readsSteps_104 (by decide) ?_
            obtain ⟨r130, hc131, hF⟩ := zb1_e hF
            refine z_Vi (As := [.int (3 : Int32)]) (rest := []) (wc := (w_X12_four cA h_t a_t o103)) (wc' := (w_X12_four cA h_t a_t o103)) (ws' := (w_X12_four cA h_t a_t o103)) (rv := r130) X (cwV 1 X.2.2.2.2.1 gX12_readsSteps_X12_isKnown rfl rfl rfl (by decide +kernel) (by rw [hR]; exact ⟨Nat.le_of_ble_eq_true rfl, Nat.le_of_ble_eq_true rfl⟩)) (fun sz => c_X12_isKnown l D cA g sz h_t a_t o103 (3 : Int32) r130 hc131) [0, 1, 2, 3, 4, 5, 6, 7, 8, 9, 10, 11, 12, 13, 14, 15, 16, 17, 18, 19, 20, 21] [1000, 1001, 1002, 1003, 1004, 1005, 1006, 1007, 1008, 1009, 1010, 1011, 1012, 1013, 1014, 1015, 1016, 1017, 1018, 1019, 1020, 1021] rfl (by decide) rfl (by decide) rfl rfl rfl rfl rfl rfl (Nat.le_of_ble_eq_true rfl) dX12_readsSteps_105 ⟨Nat.zero_le _, Nat.zero_le _⟩ ?_
            have hF := if_e hF
            refine z_if_eq (tgt := 216) X dX12_readsSteps_108 (by decide) (fun c188 => ?_) (fun c188 => ?_)
            · have hF := hF.1 c188
              refine z_aload_n X dX12_readsSteps_216 rfl 0 rfl ?_
              obtain ⟨r132, hc133, hF⟩ := zb1_e hF
              refine z_Vi (As := []) (rest := []) (wc := (w_X12_four cA h_t a_t o103)) (wc' := (w_X12_four cA h_t a_t o103)) (ws' := (w_X12_four cA h_t a_t o103)) (rv := r132) X (cwV 0 X.2.2.2.2.1 gX12_readsSteps_X12_isName rfl rfl rfl (by decide +kernel) (by rw [hR]; exact ⟨Nat.le_of_ble_eq_true rfl, Nat.le_of_ble_eq_true rfl⟩)) (fun sz => c_X12_isName l D cA g sz h_t a_t o103 r132 hc133) [0, 1, 2, 3, 4, 5, 6, 7, 8, 9, 10, 11, 12, 13, 14, 15, 16, 17, 18, 19, 20, 21] [1000, 1001, 1002, 1003, 1004, 1005, 1006, 1007, 1008, 1009, 1010, 1011, 1012, 1013, 1014, 1015, 1016, 1017, 1018, 1019, 1020, 1021] rfl (by decide) rfl (by decide) rfl rfl rfl rfl rfl rfl (Nat.le_of_ble_eq_true rfl) dX12_readsSteps_217 ⟨Nat.zero_le _, Nat.zero_le _⟩ ?_
              have hF := if_e hF
              refine z_if_ne (tgt := 229) X dX12_readsSteps_220 (by decide) (fun c159 => ?_) (fun c159 => ?_)
              · have hF := hF.2 c159
                refine z_aload_n X dX12_readsSteps_229 rfl 0 rfl ?_
                refine z_aload_n X dX12_readsSteps_230 rfl 0 rfl ?_
                refine z_get (v := .ref (a_t 0)) X k_X12_readsSteps_7 0 rfl rfl dX12_readsSteps_231 ?_
                obtain ⟨r134, hc135, hF⟩ := zb1_e hF
                refine z_Vi (As := [.ref (a_t 0)]) (rest := []) (wc := (w_X12_four cA h_t a_t o103)) (wc' := (w_X12_four cA h_t a_t o103)) (ws' := (w_X12_four cA h_t a_t o103)) (rv := r134) X (cwV 1 X.2.2.2.2.1 gX12_readsSteps_X12_named rfl rfl rfl (by decide +kernel) (by rw [hR]; exact ⟨Nat.le_of_ble_eq_true rfl, Nat.le_of_ble_eq_true rfl⟩)) (fun sz => c_X12_named__s l D cA g sz h_t a_t o103 r134 hc135) [0, 1, 2, 3, 4, 5, 6, 7, 8, 9, 10, 11, 12, 13, 14, 15, 16, 17, 18, 19, 20, 21] [1000, 1001, 1002, 1003, 1004, 1005, 1006, 1007, 1008, 1009, 1010, 1011, 1012, 1013, 1014, 1015, 1016, 1017, 1018, 1019, 1020, 1021] rfl (by decide) rfl (by decide) rfl rfl rfl rfl rfl rfl (Nat.le_of_ble_eq_true rfl) dX12_readsSteps_234 ⟨Nat.zero_le _, Nat.zero_le _⟩ ?_
                refine z_istore_n (lv' := [(1, .int r134), (0, .ref h_t)]) X dX12_readsSteps_237 rfl (by decide) rfl ?_
                refine z_iload_n X dX12_readsSteps_238 rfl 0 rfl ?_
                have hF := if_e hF
                refine z_if_ge (tgt := 248) X dX12_readsSteps_239 (by decide) (fun c154 => ?_) (fun c154 => ?_)
                · have hF := hF.1 c154
                  refine z_aload_n X dX12_readsSteps_248 rfl 1 rfl ?_
                  refine z_get (v := .ref (a_t 22)) X k_X12_readsSteps_36 0 rfl rfl dX12_readsSteps_249 ?_
                  refine z_aload_n X dX12_readsSteps_252 rfl 1 rfl ?_
                  refine z_get (v := .int (o103 26 0)) X k_X12_readsSteps_254 0 rfl rfl dX12_readsSteps_253 ?_
                  refine z_iload_n X dX12_readsSteps_256 rfl 0 rfl ?_
                  obtain ⟨g136, hF⟩ := gi_e hF
                  obtain ⟨o137, eo137, hF⟩ := nx_e hF
                  refine z_iast (ws' := (w_X12_four cA h_t a_t o137)) X 9 rfl g136 (by rw [eo137]; rfl) dX12_readsSteps_257 ?_
                  refine z_aload_n X dX12_readsSteps_258 rfl 1 rfl ?_
                  refine z_dup X dX12_readsSteps_259 rfl ?_
                  refine z_get (v := .int (o137 26 0)) X k_X12_readsSteps_254 0 rfl rfl dX12_readsSteps_260 ?_
                  refine z_iconst (v := (1 : Int32)) X dX12_readsSteps_263 (by decide) ?_
                  refine z_iadd X dX12_readsSteps_264 ?_
                  obtain ⟨o138, eo138, hF⟩ := nx_e hF
                  refine z_put (ws' := (w_X12_four cA h_t a_t o138)) X k_X12_readsSteps_254 tyX12 tyX12_ok nmX12 rfl rfl 0 rfl (Nat.le_of_ble_eq_true rfl) (by rw [eo138]; rfl) dX12_readsSteps_265 ?_
                  refine z_aload_n X dX12_readsSteps_268 rfl 1 rfl ?_
                  obtain ⟨o139, hc140, hF⟩ := zb1_e hF
                  refine z_Vv (As := []) (rest := []) (wc := (w_X12_four cA h_t a_t o138)) (wc' := (w_X12_four cA h_t a_t o139)) (ws' := (w_X12_four cA h_t a_t o139)) X (cwV 0 X.2.2.2.2.1 gX12_readsSteps_X12_next rfl rfl rfl (by decide +kernel) (by rw [hR]; exact ⟨Nat.le_of_ble_eq_true rfl, Nat.le_of_ble_eq_true rfl⟩)) (fun sz => c_X12_next l D cA g sz h_t a_t o138 o139 hc140) [0, 1, 2, 3, 4, 5, 6, 7, 8, 9, 10, 11, 12, 13, 14, 15, 16, 17, 18, 19, 20, 21] [1000, 1001, 1002, 1003, 1004, 1005, 1006, 1007, 1008, 1009, 1010, 1011, 1012, 1013, 1014, 1015, 1016, 1017, 1018, 1019, 1020, 1021] rfl (by decide) rfl (by decide) rfl rfl rfl rfl rfl rfl (Nat.le_of_ble_eq_true rfl) dX12_readsSteps_269 ⟨Nat.zero_le _, Nat.zero_le _⟩ ?_
                  refine z_aload_n X dX12_readsSteps_272 rfl 1 rfl ?_
                  refine z_bipush (v := (59 : Int32)) X dX12_readsSteps_273 (by decide) ?_
                  obtain ⟨r141, hc142, hF⟩ := zb1_e hF
                  refine z_Vi (As := [.int (59 : Int32)]) (rest := []) (wc := (w_X12_four cA h_t a_t o139)) (wc' := (w_X12_four cA h_t a_t o139)) (ws' := (w_X12_four cA h_t a_t o139)) (rv := r141) X (cwV 1 X.2.2.2.2.1 gX12_readsSteps_X12_isSign rfl rfl rfl (by decide +kernel) (by rw [hR]; exact ⟨Nat.le_of_ble_eq_true rfl, Nat.le_of_ble_eq_true rfl⟩)) (fun sz => c_X12_isSign l D cA g sz h_t a_t o139 (59 : Int32) r141 hc142) [0, 1, 2, 3, 4, 5, 6, 7, 8, 9, 10, 11, 12, 13, 14, 15, 16, 17, 18, 19, 20, 21] [1000, 1001, 1002, 1003, 1004, 1005, 1006, 1007, 1008, 1009, 1010, 1011, 1012, 1013, 1014, 1015, 1016, 1017, 1018, 1019, 1020, 1021] rfl (by decide) rfl (by decide) rfl rfl rfl rfl rfl rfl (Nat.le_of_ble_eq_true rfl) dX12_readsSteps_275 ⟨Nat.zero_le _, Nat.zero_le _⟩ ?_
                  have hF := if_e hF
                  refine z_if_ne (tgt := 287) X dX12_readsSteps_278 (by decide) (fun c149 => ?_) (fun c149 => ?_)
                  · have hF := hF.2 c149
                    refine z_aload_n X dX12_readsSteps_287 rfl 1 rfl ?_
                    obtain ⟨o143, hc144, hF⟩ := zb1_e hF
                    refine z_Vv (As := []) (rest := []) (wc := (w_X12_four cA h_t a_t o139)) (wc' := (w_X12_four cA h_t a_t o143)) (ws' := (w_X12_four cA h_t a_t o143)) X (cwV 0 X.2.2.2.2.1 gX12_readsSteps_X12_next rfl rfl rfl (by decide +kernel) (by rw [hR]; exact ⟨Nat.le_of_ble_eq_true rfl, Nat.le_of_ble_eq_true rfl⟩)) (fun sz => c_X12_next l D cA g sz h_t a_t o139 o143 hc144) [0, 1, 2, 3, 4, 5, 6, 7, 8, 9, 10, 11, 12, 13, 14, 15, 16, 17, 18, 19, 20, 21] [1000, 1001, 1002, 1003, 1004, 1005, 1006, 1007, 1008, 1009, 1010, 1011, 1012, 1013, 1014, 1015, 1016, 1017, 1018, 1019, 1020, 1021] rfl (by decide) rfl (by decide) rfl rfl rfl rfl rfl rfl (Nat.le_of_ble_eq_true rfl) dX12_readsSteps_288 ⟨Nat.zero_le _, Nat.zero_le _⟩ ?_
                    refine z_goto (tgt := 19) X dX12_readsSteps_291 (by decide) ?_
                    cases hF
                    refine z_lv (lv' := [(0, .ref h_t)]) [1] rfl ?_
                    exact ih o143 hL
                  · have hF := hF.1 c149
                    refine z_aload_n X dX12_readsSteps_281 rfl 1 rfl ?_
                    refine z_iconst (v := (1 : Int32)) X dX12_readsSteps_282 (by decide) ?_
                    obtain ⟨o145, r146, hc147, hF⟩ := zb2_e hF
                    refine z_Vi (As := [.int (1 : Int32)]) (rest := []) (wc := (w_X12_four cA h_t a_t o139)) (wc' := (w_X12_four cA h_t a_t o145)) (ws' := (w_X12_four cA h_t a_t o145)) (rv := r146) X (cwV 1 X.2.2.2.2.1 gX12_readsSteps_X12_badHere rfl rfl rfl (by decide +kernel) (by rw [hR]; exact ⟨Nat.le_of_ble_eq_true rfl, Nat.le_of_ble_eq_true rfl⟩)) (fun sz => c_X12_badHere l D cA g sz h_t a_t o139 (1 : Int32) o145 r146 hc147) [0, 1, 2, 3, 4, 5, 6, 7, 8, 9, 10, 11, 12, 13, 14, 15, 16, 17, 18, 19, 20, 21] [1000, 1001, 1002, 1003, 1004, 1005, 1006, 1007, 1008, 1009, 1010, 1011, 1012, 1013, 1014, 1015, 1016, 1017, 1018, 1019, 1020, 1021] rfl (by decide) rfl (by decide) rfl rfl rfl rfl rfl rfl (Nat.le_of_ble_eq_true rfl) dX12_readsSteps_283 ⟨Nat.zero_le _, Nat.zero_le _⟩ ?_
                    obtain ⟨g148, hF⟩ := gz_e hF
                    cases hF
                    have hL := (Option.some.inj hL).symm
                    have hF := L105_r _ hL
                    cases hF
                    exact z_zret X hA hQ hr g148  rfl dX12_readsSteps_286 (Nat.le_refl _) (Nat.le_refl _)
                · have hF := hF.2 c154
                  refine z_aload_n X dX12_readsSteps_242 rfl 1 rfl ?_
                  refine z_iconst (v := (3 : Int32)) X dX12_readsSteps_243 (by decide) ?_
                  obtain ⟨o150, r151, hc152, hF⟩ := zb2_e hF
                  refine z_Vi (As := [.int (3 : Int32)]) (rest := []) (wc := (w_X12_four cA h_t a_t o103)) (wc' := (w_X12_four cA h_t a_t o150)) (ws' := (w_X12_four cA h_t a_t o150)) (rv := r151) X (cwV 1 X.2.2.2.2.1 gX12_readsSteps_X12_badHere rfl rfl rfl (by decide +kernel) (by rw [hR]; exact ⟨Nat.le_of_ble_eq_true rfl, Nat.le_of_ble_eq_true rfl⟩)) (fun sz => c_X12_badHere l D cA g sz h_t a_t o103 (3 : Int32) o150 r151 hc152) [0, 1, 2, 3, 4, 5, 6, 7, 8, 9, 10, 11, 12, 13, 14, 15, 16, 17, 18, 19, 20, 21] [1000, 1001, 1002, 1003, 1004, 1005, 1006, 1007, 1008, 1009, 1010, 1011, 1012, 1013, 1014, 1015, 1016, 1017, 1018, 1019, 1020, 1021] rfl (by decide) rfl (by decide) rfl rfl rfl rfl rfl rfl (Nat.le_of_ble_eq_true rfl) dX12_readsSteps_244 ⟨Nat.zero_le _, Nat.zero_le _⟩ ?_
                  obtain ⟨g153, hF⟩ := gz_e hF
                  cases hF
                  have hL := (Option.some.inj hL).symm
                  have hF := L105_r _ hL
                  cases hF
                  exact z_zret X hA hQ hr g153  rfl dX12_readsSteps_247 (Nat.le_refl _) (Nat.le_refl _)
              · have hF := hF.1 c159
                refine z_aload_n X dX12_readsSteps_223 rfl 0 rfl ?_
                refine z_iconst (v := (1 : Int32)) X dX12_readsSteps_224 (by decide) ?_
                obtain ⟨o155, r156, hc157, hF⟩ := zb2_e hF
                refine z_Vi (As := [.int (1 : Int32)]) (rest := []) (wc := (w_X12_four cA h_t a_t o103)) (wc' := (w_X12_four cA h_t a_t o155)) (ws' := (w_X12_four cA h_t a_t o155)) (rv := r156) X (cwV 1 X.2.2.2.2.1 gX12_readsSteps_X12_badHere rfl rfl rfl (by decide +kernel) (by rw [hR]; exact ⟨Nat.le_of_ble_eq_true rfl, Nat.le_of_ble_eq_true rfl⟩)) (fun sz => c_X12_badHere l D cA g sz h_t a_t o103 (1 : Int32) o155 r156 hc157) [0, 1, 2, 3, 4, 5, 6, 7, 8, 9, 10, 11, 12, 13, 14, 15, 16, 17, 18, 19, 20, 21] [1000, 1001, 1002, 1003, 1004, 1005, 1006, 1007, 1008, 1009, 1010, 1011, 1012, 1013, 1014, 1015, 1016, 1017, 1018, 1019, 1020, 1021] rfl (by decide) rfl (by decide) rfl rfl rfl rfl rfl rfl (Nat.le_of_ble_eq_true rfl) dX12_readsSteps_225 ⟨Nat.zero_le _, Nat.zero_le _⟩ ?_
                obtain ⟨g158, hF⟩ := gz_e hF
                cases hF
                have hL := (Option.some.inj hL).symm
                have hF := L105_r _ hL
                cases hF
                exact z_zret X hA hQ hr g158  rfl dX12_readsSteps_228 (Nat.le_refl _) (Nat.le_refl _)
            · have hF := hF.2 c188
              refine z_aload_n X dX12_readsSteps_111 rfl 0 rfl ?_
              refine z_get (v := .int (o103 27 0)) X k_X12_readsSteps_257 0 rfl rfl dX12_readsSteps_112 ?_
              refine z_iconst (v := (2 : Int32)) X dX12_readsSteps_115 (by decide) ?_
              have hF := if_e hF
              refine z_icmp_ne (tgt := 125) X dX12_readsSteps_116 (by decide) (fun c187 => ?_) (fun c187 => ?_)
              · have hF := hF.2 c187
                refine z_aload_n X dX12_readsSteps_125 rfl 0 rfl ?_
                refine z_get (v := .ref (a_t 24)) X k_X12_readsSteps_42 0 rfl rfl dX12_readsSteps_126 ?_
                refine z_aload_n X dX12_readsSteps_129 rfl 0 rfl ?_
                refine z_get (v := .int (o103 27 0)) X k_X12_readsSteps_257 0 rfl rfl dX12_readsSteps_130 ?_
                refine z_aload_n X dX12_readsSteps_133 rfl 0 rfl ?_
                refine z_get (v := .int (o103 26 0)) X k_X12_readsSteps_254 0 rfl rfl dX12_readsSteps_134 ?_
                obtain ⟨g160, hF⟩ := gi_e hF
                obtain ⟨o161, eo161, hF⟩ := nx_e hF
                refine z_iast (ws' := (w_X12_four cA h_t a_t o161)) X 11 rfl g160 (by rw [eo161]; rfl) dX12_readsSteps_137 ?_
                refine z_aload_n X dX12_readsSteps_138 rfl 0 rfl ?_
                refine z_dup X dX12_readsSteps_139 rfl ?_
                refine z_get (v := .int (o161 27 0)) X k_X12_readsSteps_257 0 rfl rfl dX12_readsSteps_140 ?_
                refine z_iconst (v := (1 : Int32)) X dX12_readsSteps_143 (by decide) ?_
                refine z_iadd X dX12_readsSteps_144 ?_
                obtain ⟨o162, eo162, hF⟩ := nx_e hF
                refine z_put (ws' := (w_X12_four cA h_t a_t o162)) X k_X12_readsSteps_257 tyX12 tyX12_ok nmX12 rfl rfl 0 rfl (Nat.le_of_ble_eq_true rfl) (by rw [eo162]; rfl) dX12_readsSteps_145 ?_
                refine z_aload_n X dX12_readsSteps_148 rfl 0 rfl ?_
                obtain ⟨o163, hc164, hF⟩ := zb1_e hF
                refine z_Vv (As := []) (rest := []) (wc := (w_X12_four cA h_t a_t o162)) (wc' := (w_X12_four cA h_t a_t o163)) (ws' := (w_X12_four cA h_t a_t o163)) X (cwV 0 X.2.2.2.2.1 gX12_readsSteps_X12_next rfl rfl rfl (by decide +kernel) (by rw [hR]; exact ⟨Nat.le_of_ble_eq_true rfl, Nat.le_of_ble_eq_true rfl⟩)) (fun sz => c_X12_next l D cA g sz h_t a_t o162 o163 hc164) [0, 1, 2, 3, 4, 5, 6, 7, 8, 9, 10, 11, 12, 13, 14, 15, 16, 17, 18, 19, 20, 21] [1000, 1001, 1002, 1003, 1004, 1005, 1006, 1007, 1008, 1009, 1010, 1011, 1012, 1013, 1014, 1015, 1016, 1017, 1018, 1019, 1020, 1021] rfl (by decide) rfl (by decide) rfl rfl rfl rfl rfl rfl (Nat.le_of_ble_eq_true rfl) dX12_readsSteps_149 ⟨Nat.zero_le _, Nat.zero_le _⟩ ?_
                refine z_aload_n X dX12_readsSteps_152 rfl 0 rfl ?_
                refine z_iconst (v := (1 : Int32)) X dX12_readsSteps_153 (by decide) ?_
                refine z_bipush (v := (9 : Int32)) X dX12_readsSteps_154 (by decide) ?_
                obtain ⟨o165, r166, hc167, hF⟩ := zb2_e hF
                refine z_Vi (As := [.int (1 : Int32), .int (9 : Int32)]) (rest := []) (wc := (w_X12_four cA h_t a_t o163)) (wc' := (w_X12_four cA h_t a_t o165)) (ws' := (w_X12_four cA h_t a_t o165)) (rv := r166) X (cwV 2 X.2.2.2.2.1 gX12_readsSteps_X12_number rfl rfl rfl (by decide +kernel) (by rw [hR]; exact ⟨Nat.le_of_ble_eq_true rfl, Nat.le_of_ble_eq_true rfl⟩)) (fun sz => c_X12_number l D cA g sz h_t a_t o163 (1 : Int32) (9 : Int32) o165 r166 hc167) [0, 1, 2, 3, 4, 5, 6, 7, 8, 9, 10, 11, 12, 13, 14, 15, 16, 17, 18, 19, 20, 21] [1000, 1001, 1002, 1003, 1004, 1005, 1006, 1007, 1008, 1009, 1010, 1011, 1012, 1013, 1014, 1015, 1016, 1017, 1018, 1019, 1020, 1021] rfl (by decide) rfl (by decide) rfl rfl rfl rfl rfl rfl (Nat.le_of_ble_eq_true rfl) dX12_readsSteps_156 ⟨Nat.zero_le _, Nat.zero_le _⟩ ?_
                have hF := if_e hF
                refine z_if_ne (tgt := 164) X dX12_readsSteps_159 (by decide) (fun c182 => ?_) (fun c182 => ?_)
                · have hF := hF.2 c182
                  refine z_aload_n X dX12_readsSteps_164 rfl 0 rfl ?_
                  refine z_get (v := .ref (a_t 22)) X k_X12_readsSteps_36 0 rfl rfl dX12_readsSteps_165 ?_
                  refine z_aload_n X dX12_readsSteps_168 rfl 0 rfl ?_
                  refine z_get (v := .int (o165 26 0)) X k_X12_readsSteps_254 0 rfl rfl dX12_readsSteps_169 ?_
                  refine z_bipush (v := (100 : Int32)) X dX12_readsSteps_172 (by decide) ?_
                  refine z_aload_n X dX12_readsSteps_174 rfl 0 rfl ?_
                  refine z_get (v := .int (o165 12 0)) X k_X12_readsSteps_110 0 rfl rfl dX12_readsSteps_175 ?_
                  refine z_iadd X dX12_readsSteps_178 ?_
                  obtain ⟨g168, hF⟩ := gi_e hF
                  obtain ⟨o169, eo169, hF⟩ := nx_e hF
                  refine z_iast (ws' := (w_X12_four cA h_t a_t o169)) X 9 rfl g168 (by rw [eo169]; rfl) dX12_readsSteps_179 ?_
                  refine z_aload_n X dX12_readsSteps_180 rfl 0 rfl ?_
                  refine z_dup X dX12_readsSteps_181 rfl ?_
                  refine z_get (v := .int (o169 26 0)) X k_X12_readsSteps_254 0 rfl rfl dX12_readsSteps_182 ?_
                  refine z_iconst (v := (1 : Int32)) X dX12_readsSteps_185 (by decide) ?_
                  refine z_iadd X dX12_readsSteps_186 ?_
                  obtain ⟨o170, eo170, hF⟩ := nx_e hF
                  refine z_put (ws' := (w_X12_four cA h_t a_t o170)) X k_X12_readsSteps_254 tyX12 tyX12_ok nmX12 rfl rfl 0 rfl (Nat.le_of_ble_eq_true rfl) (by rw [eo170]; rfl) dX12_readsSteps_187 ?_
                  refine z_aload_n X dX12_readsSteps_190 rfl 0 rfl ?_
                  obtain ⟨o171, hc172, hF⟩ := zb1_e hF
                  refine z_Vv (As := []) (rest := []) (wc := (w_X12_four cA h_t a_t o170)) (wc' := (w_X12_four cA h_t a_t o171)) (ws' := (w_X12_four cA h_t a_t o171)) X (cwV 0 X.2.2.2.2.1 gX12_readsSteps_X12_next rfl rfl rfl (by decide +kernel) (by rw [hR]; exact ⟨Nat.le_of_ble_eq_true rfl, Nat.le_of_ble_eq_true rfl⟩)) (fun sz => c_X12_next l D cA g sz h_t a_t o170 o171 hc172) [0, 1, 2, 3, 4, 5, 6, 7, 8, 9, 10, 11, 12, 13, 14, 15, 16, 17, 18, 19, 20, 21] [1000, 1001, 1002, 1003, 1004, 1005, 1006, 1007, 1008, 1009, 1010, 1011, 1012, 1013, 1014, 1015, 1016, 1017, 1018, 1019, 1020, 1021] rfl (by decide) rfl (by decide) rfl rfl rfl rfl rfl rfl (Nat.le_of_ble_eq_true rfl) dX12_readsSteps_191 ⟨Nat.zero_le _, Nat.zero_le _⟩ ?_
                  refine z_aload_n X dX12_readsSteps_194 rfl 0 rfl ?_
                  refine z_bipush (v := (91 : Int32)) X dX12_readsSteps_195 (by decide) ?_
                  obtain ⟨r173, hc174, hF⟩ := zb1_e hF
                  refine z_Vi (As := [.int (91 : Int32)]) (rest := []) (wc := (w_X12_four cA h_t a_t o171)) (wc' := (w_X12_four cA h_t a_t o171)) (ws' := (w_X12_four cA h_t a_t o171)) (rv := r173) X (cwV 1 X.2.2.2.2.1 gX12_readsSteps_X12_isSign rfl rfl rfl (by decide +kernel) (by rw [hR]; exact ⟨Nat.le_of_ble_eq_true rfl, Nat.le_of_ble_eq_true rfl⟩)) (fun sz => c_X12_isSign l D cA g sz h_t a_t o171 (91 : Int32) r173 hc174) [0, 1, 2, 3, 4, 5, 6, 7, 8, 9, 10, 11, 12, 13, 14, 15, 16, 17, 18, 19, 20, 21] [1000, 1001, 1002, 1003, 1004, 1005, 1006, 1007, 1008, 1009, 1010, 1011, 1012, 1013, 1014, 1015, 1016, 1017, 1018, 1019, 1020, 1021] rfl (by decide) rfl (by decide) rfl rfl rfl rfl rfl rfl (Nat.le_of_ble_eq_true rfl) dX12_readsSteps_197 ⟨Nat.zero_le _, Nat.zero_le _⟩ ?_
                  have hF := if_e hF
                  refine z_if_ne (tgt := 209) X dX12_readsSteps_200 (by decide) (fun c181 => ?_) (fun c181 => ?_)
                  · have hF := hF.2 c181
                    refine z_aload_n X dX12_readsSteps_209 rfl 0 rfl ?_
                    obtain ⟨o175, hc176, hF⟩ := zb1_e hF
                    refine z_Vv (As := []) (rest := []) (wc := (w_X12_four cA h_t a_t o171)) (wc' := (w_X12_four cA h_t a_t o175)) (ws' := (w_X12_four cA h_t a_t o175)) X (cwV 0 X.2.2.2.2.1 gX12_readsSteps_X12_next rfl rfl rfl (by decide +kernel) (by rw [hR]; exact ⟨Nat.le_of_ble_eq_true rfl, Nat.le_of_ble_eq_true rfl⟩)) (fun sz => c_X12_next l D cA g sz h_t a_t o171 o175 hc176) [0, 1, 2, 3, 4, 5, 6, 7, 8, 9, 10, 11, 12, 13, 14, 15, 16, 17, 18, 19, 20, 21] [1000, 1001, 1002, 1003, 1004, 1005, 1006, 1007, 1008, 1009, 1010, 1011, 1012, 1013, 1014, 1015, 1016, 1017, 1018, 1019, 1020, 1021] rfl (by decide) rfl (by decide) rfl rfl rfl rfl rfl rfl (Nat.le_of_ble_eq_true rfl) dX12_readsSteps_210 ⟨Nat.zero_le _, Nat.zero_le _⟩ ?_
                    refine z_goto (tgt := 19) X dX12_readsSteps_213 (by decide) ?_
                    cases hF
                    refine z_lv (lv' := [(0, .ref h_t)]) [0] rfl ?_
                    exact ih o175 hL
                  · have hF := hF.1 c181
                    refine z_aload_n X dX12_readsSteps_203 rfl 0 rfl ?_
                    refine z_iconst (v := (1 : Int32)) X dX12_readsSteps_204 (by decide) ?_
                    obtain ⟨o177, r178, hc179, hF⟩ := zb2_e hF
                    refine z_Vi (As := [.int (1 : Int32)]) (rest := []) (wc := (w_X12_four cA h_t a_t o171)) (wc' := (w_X12_four cA h_t a_t o177)) (ws' := (w_X12_four cA h_t a_t o177)) (rv := r178) X (cwV 1 X.2.2.2.2.1 gX12_readsSteps_X12_badHere rfl rfl rfl (by decide +kernel) (by rw [hR]; exact ⟨Nat.le_of_ble_eq_true rfl, Nat.le_of_ble_eq_true rfl⟩)) (fun sz => c_X12_badHere l D cA g sz h_t a_t o171 (1 : Int32) o177 r178 hc179) [0, 1, 2, 3, 4, 5, 6, 7, 8, 9, 10, 11, 12, 13, 14, 15, 16, 17, 18, 19, 20, 21] [1000, 1001, 1002, 1003, 1004, 1005, 1006, 1007, 1008, 1009, 1010, 1011, 1012, 1013, 1014, 1015, 1016, 1017, 1018, 1019, 1020, 1021] rfl (by decide) rfl (by decide) rfl rfl rfl rfl rfl rfl (Nat.le_of_ble_eq_true rfl) dX12_readsSteps_205 ⟨Nat.zero_le _, Nat.zero_le _⟩ ?_
                    obtain ⟨g180, hF⟩ := gz_e hF
                    cases hF
                    have hL := (Option.some.inj hL).symm
                    have hF := L105_r _ hL
                    cases hF
                    exact z_zret X hA hQ hr g180  rfl dX12_readsSteps_208 (Nat.le_refl _) (Nat.le_refl _)
                · have hF := hF.1 c182
                  refine z_iconst (v := (0 : Int32)) X dX12_readsSteps_162 (by decide) ?_
                  cases hF
                  have hL := (Option.some.inj hL).symm
                  have hF := L105_r _ hL
                  cases hF
                  exact z_zret X hA hQ hr (Or.inl rfl)  rfl dX12_readsSteps_163 (Nat.le_refl _) (Nat.le_refl _)
              · have hF := hF.1 c187
                refine z_aload_n X dX12_readsSteps_119 rfl 0 rfl ?_
                refine z_iconst (v := (5 : Int32)) X dX12_readsSteps_120 (by decide) ?_
                obtain ⟨o183, r184, hc185, hF⟩ := zb2_e hF
                refine z_Vi (As := [.int (5 : Int32)]) (rest := []) (wc := (w_X12_four cA h_t a_t o103)) (wc' := (w_X12_four cA h_t a_t o183)) (ws' := (w_X12_four cA h_t a_t o183)) (rv := r184) X (cwV 1 X.2.2.2.2.1 gX12_readsSteps_X12_badHere rfl rfl rfl (by decide +kernel) (by rw [hR]; exact ⟨Nat.le_of_ble_eq_true rfl, Nat.le_of_ble_eq_true rfl⟩)) (fun sz => c_X12_badHere l D cA g sz h_t a_t o103 (5 : Int32) o183 r184 hc185) [0, 1, 2, 3, 4, 5, 6, 7, 8, 9, 10, 11, 12, 13, 14, 15, 16, 17, 18, 19, 20, 21] [1000, 1001, 1002, 1003, 1004, 1005, 1006, 1007, 1008, 1009, 1010, 1011, 1012, 1013, 1014, 1015, 1016, 1017, 1018, 1019, 1020, 1021] rfl (by decide) rfl (by decide) rfl rfl rfl rfl rfl rfl (Nat.le_of_ble_eq_true rfl) dX12_readsSteps_121 ⟨Nat.zero_le _, Nat.zero_le _⟩ ?_
                obtain ⟨g186, hF⟩ := gz_e hF
                cases hF
                have hL := (Option.some.inj hL).symm
                have hF := L105_r _ hL
                cases hF
                exact z_zret X hA hQ hr g186  rfl dX12_readsSteps_124 (Nat.le_refl _) (Nat.le_refl _)
          have hF := if_e hF
          refine z_if_le (tgt := 103) X dX12_readsSteps_37 (by decide) (fun c207 => ?_) (fun c207 => ?_)
          · have hF := hF.1 c207
            refine z_lv (lv' := [(0, .ref h_t)]) [0] rfl ?_
            exact K129_l () hF
          · have hF := hF.2 c207
            refine z_aload_n X dX12_readsSteps_40 rfl 0 rfl ?_
            refine z_bipush (v := (93 : Int32)) X dX12_readsSteps_41 (by decide) ?_
            obtain ⟨r189, hc190, hF⟩ := zb1_e hF
            refine z_Vi (As := [.int (93 : Int32)]) (rest := []) (wc := (w_X12_four cA h_t a_t o103)) (wc' := (w_X12_four cA h_t a_t o103)) (ws' := (w_X12_four cA h_t a_t o103)) (rv := r189) X (cwV 1 X.2.2.2.2.1 gX12_readsSteps_X12_isSign rfl rfl rfl (by decide +kernel) (by rw [hR]; exact ⟨Nat.le_of_ble_eq_true rfl, Nat.le_of_ble_eq_true rfl⟩)) (fun sz => c_X12_isSign l D cA g sz h_t a_t o103 (93 : Int32) r189 hc190) [0, 1, 2, 3, 4, 5, 6, 7, 8, 9, 10, 11, 12, 13, 14, 15, 16, 17, 18, 19, 20, 21] [1000, 1001, 1002, 1003, 1004, 1005, 1006, 1007, 1008, 1009, 1010, 1011, 1012, 1013, 1014, 1015, 1016, 1017, 1018, 1019, 1020, 1021] rfl (by decide) rfl (by decide) rfl rfl rfl rfl rfl rfl (Nat.le_of_ble_eq_true rfl) dX12_readsSteps_43 ⟨Nat.zero_le _, Nat.zero_le _⟩ ?_
            have hF := if_e hF
            refine z_if_eq (tgt := 103) X dX12_readsSteps_46 (by decide) (fun c206 => ?_) (fun c206 => ?_)
            · have hF := hF.1 c206
              refine z_lv (lv' := [(0, .ref h_t)]) [0] rfl ?_
              exact K129_l () hF
            · have hF := hF.2 c206
              refine z_aload_n X dX12_readsSteps_49 rfl 0 rfl ?_
              obtain ⟨o191, hc192, hF⟩ := zb1_e hF
              refine z_Vv (As := []) (rest := []) (wc := (w_X12_four cA h_t a_t o103)) (wc' := (w_X12_four cA h_t a_t o191)) (ws' := (w_X12_four cA h_t a_t o191)) X (cwV 0 X.2.2.2.2.1 gX12_readsSteps_X12_next rfl rfl rfl (by decide +kernel) (by rw [hR]; exact ⟨Nat.le_of_ble_eq_true rfl, Nat.le_of_ble_eq_true rfl⟩)) (fun sz => c_X12_next l D cA g sz h_t a_t o103 o191 hc192) [0, 1, 2, 3, 4, 5, 6, 7, 8, 9, 10, 11, 12, 13, 14, 15, 16, 17, 18, 19, 20, 21] [1000, 1001, 1002, 1003, 1004, 1005, 1006, 1007, 1008, 1009, 1010, 1011, 1012, 1013, 1014, 1015, 1016, 1017, 1018, 1019, 1020, 1021] rfl (by decide) rfl (by decide) rfl rfl rfl rfl rfl rfl (Nat.le_of_ble_eq_true rfl) dX12_readsSteps_50 ⟨Nat.zero_le _, Nat.zero_le _⟩ ?_
              refine z_aload_n X dX12_readsSteps_53 rfl 0 rfl ?_
              refine z_dup X dX12_readsSteps_54 rfl ?_
              refine z_get (v := .int (o191 27 0)) X k_X12_readsSteps_257 0 rfl rfl dX12_readsSteps_55 ?_
              refine z_iconst (v := (1 : Int32)) X dX12_readsSteps_58 (by decide) ?_
              refine z_isub X dX12_readsSteps_59 ?_
              obtain ⟨o193, eo193, hF⟩ := nx_e hF
              refine z_put (ws' := (w_X12_four cA h_t a_t o193)) X k_X12_readsSteps_257 tyX12 tyX12_ok nmX12 rfl rfl 0 rfl (Nat.le_of_ble_eq_true rfl) (by rw [eo193]; rfl) dX12_readsSteps_60 ?_
              refine z_aload_n X dX12_readsSteps_63 rfl 0 rfl ?_
              refine z_get (v := .ref (a_t 23)) X k_X12_readsSteps_39 0 rfl rfl dX12_readsSteps_64 ?_
              refine z_aload_n X dX12_readsSteps_67 rfl 0 rfl ?_
              refine z_get (v := .ref (a_t 24)) X k_X12_readsSteps_42 0 rfl rfl dX12_readsSteps_68 ?_
              refine z_aload_n X dX12_readsSteps_71 rfl 0 rfl ?_
              refine z_get (v := .int (o193 27 0)) X k_X12_readsSteps_257 0 rfl rfl dX12_readsSteps_72 ?_
              obtain ⟨g194, hF⟩ := gi_e hF
              refine z_iald X 11 rfl g194 dX12_readsSteps_75 ?_
              refine z_aload_n X dX12_readsSteps_76 rfl 0 rfl ?_
              refine z_get (v := .int (o193 26 0)) X k_X12_readsSteps_254 0 rfl rfl dX12_readsSteps_77 ?_
              obtain ⟨g195, hF⟩ := gi_e hF
              obtain ⟨o196, eo196, hF⟩ := nx_e hF
              refine z_iast (ws' := (w_X12_four cA h_t a_t o196)) X 10 rfl g195 (by rw [eo196]; rfl) dX12_readsSteps_80 ?_
              refine z_aload_n X dX12_readsSteps_81 rfl 0 rfl ?_
              refine z_bipush (v := (59 : Int32)) X dX12_readsSteps_82 (by decide) ?_
              obtain ⟨r197, hc198, hF⟩ := zb1_e hF
              refine z_Vi (As := [.int (59 : Int32)]) (rest := []) (wc := (w_X12_four cA h_t a_t o196)) (wc' := (w_X12_four cA h_t a_t o196)) (ws' := (w_X12_four cA h_t a_t o196)) (rv := r197) X (cwV 1 X.2.2.2.2.1 gX12_readsSteps_X12_isSign rfl rfl rfl (by decide +kernel) (by rw [hR]; exact ⟨Nat.le_of_ble_eq_true rfl, Nat.le_of_ble_eq_true rfl⟩)) (fun sz => c_X12_isSign l D cA g sz h_t a_t o196 (59 : Int32) r197 hc198) [0, 1, 2, 3, 4, 5, 6, 7, 8, 9, 10, 11, 12, 13, 14, 15, 16, 17, 18, 19, 20, 21] [1000, 1001, 1002, 1003, 1004, 1005, 1006, 1007, 1008, 1009, 1010, 1011, 1012, 1013, 1014, 1015, 1016, 1017, 1018, 1019, 1020, 1021] rfl (by decide) rfl (by decide) rfl rfl rfl rfl rfl rfl (Nat.le_of_ble_eq_true rfl) dX12_readsSteps_84 ⟨Nat.zero_le _, Nat.zero_le _⟩ ?_
              have hF := if_e hF
              refine z_if_ne (tgt := 96) X dX12_readsSteps_87 (by decide) (fun c205 => ?_) (fun c205 => ?_)
              · have hF := hF.2 c205
                refine z_aload_n X dX12_readsSteps_96 rfl 0 rfl ?_
                obtain ⟨o199, hc200, hF⟩ := zb1_e hF
                refine z_Vv (As := []) (rest := []) (wc := (w_X12_four cA h_t a_t o196)) (wc' := (w_X12_four cA h_t a_t o199)) (ws' := (w_X12_four cA h_t a_t o199)) X (cwV 0 X.2.2.2.2.1 gX12_readsSteps_X12_next rfl rfl rfl (by decide +kernel) (by rw [hR]; exact ⟨Nat.le_of_ble_eq_true rfl, Nat.le_of_ble_eq_true rfl⟩)) (fun sz => c_X12_next l D cA g sz h_t a_t o196 o199 hc200) [0, 1, 2, 3, 4, 5, 6, 7, 8, 9, 10, 11, 12, 13, 14, 15, 16, 17, 18, 19, 20, 21] [1000, 1001, 1002, 1003, 1004, 1005, 1006, 1007, 1008, 1009, 1010, 1011, 1012, 1013, 1014, 1015, 1016, 1017, 1018, 1019, 1020, 1021] rfl (by decide) rfl (by decide) rfl rfl rfl rfl rfl rfl (Nat.le_of_ble_eq_true rfl) dX12_readsSteps_97 ⟨Nat.zero_le _, Nat.zero_le _⟩ ?_
                refine z_goto (tgt := 19) X dX12_readsSteps_100 (by decide) ?_
                cases hF
                refine z_lv (lv' := [(0, .ref h_t)]) [0] rfl ?_
                exact ih o199 hL
              · have hF := hF.1 c205
                refine z_aload_n X dX12_readsSteps_90 rfl 0 rfl ?_
                refine z_iconst (v := (1 : Int32)) X dX12_readsSteps_91 (by decide) ?_
                obtain ⟨o201, r202, hc203, hF⟩ := zb2_e hF
                refine z_Vi (As := [.int (1 : Int32)]) (rest := []) (wc := (w_X12_four cA h_t a_t o196)) (wc' := (w_X12_four cA h_t a_t o201)) (ws' := (w_X12_four cA h_t a_t o201)) (rv := r202) X (cwV 1 X.2.2.2.2.1 gX12_readsSteps_X12_badHere rfl rfl rfl (by decide +kernel) (by rw [hR]; exact ⟨Nat.le_of_ble_eq_true rfl, Nat.le_of_ble_eq_true rfl⟩)) (fun sz => c_X12_badHere l D cA g sz h_t a_t o196 (1 : Int32) o201 r202 hc203) [0, 1, 2, 3, 4, 5, 6, 7, 8, 9, 10, 11, 12, 13, 14, 15, 16, 17, 18, 19, 20, 21] [1000, 1001, 1002, 1003, 1004, 1005, 1006, 1007, 1008, 1009, 1010, 1011, 1012, 1013, 1014, 1015, 1016, 1017, 1018, 1019, 1020, 1021] rfl (by decide) rfl (by decide) rfl rfl rfl rfl rfl rfl (Nat.le_of_ble_eq_true rfl) dX12_readsSteps_92 ⟨Nat.zero_le _, Nat.zero_le _⟩ ?_
                obtain ⟨g204, hF⟩ := gz_e hF
                cases hF
                have hL := (Option.some.inj hL).symm
                have hF := L105_r _ hL
                cases hF
                exact z_zret X hA hQ hr g204  rfl dX12_readsSteps_95 (Nat.le_refl _) (Nat.le_refl _)
        have hF := if_e hF
        refine z_if_ne (tgt := 33) X dX12_readsSteps_23 (by decide) (fun c209 => ?_) (fun c209 => ?_)
        · have hF := hF.2 c209
          refine z_lv (lv' := [(0, .ref h_t)]) [0] rfl ?_
          exact K109_l () hF
        · have hF := hF.1 c209
          refine z_aload_n X dX12_readsSteps_26 rfl 0 rfl ?_
          refine z_get (v := .int (o103 27 0)) X k_X12_readsSteps_257 0 rfl rfl dX12_readsSteps_27 ?_
          have hF := if_e hF
          refine z_if_le (tgt := 294) X dX12_readsSteps_30 (by decide) (fun c208 => ?_) (fun c208 => ?_)
          · have hF := hF.1 c208
            cases hF
            have hL := Option.some.inj hL
            refine z_lv (lv' := []) [] rfl ?_
            exact L105_x o103 hL.symm
          · have hF := hF.2 c208
            refine z_lv (lv' := [(0, .ref h_t)]) [0] rfl ?_
            exact K109_l () hF
    refine z_lv (lv' := [(0, .ref h_t)]) [0] rfl ?_
    exact L105 FU o5 hL
  · have hF := hF.1 c212
    refine z_iconst (v := (0 : Int32)) X dX12_readsSteps_7 (by decide) ?_
    cases hF
    exact z_zret X hA hQ hr (Or.inl rfl)  rfl dX12_readsSteps_8 (Nat.le_refl _) (Nat.le_refl _)
set_option maxRecDepth 20000 in
theorem h_X12_doesSteps_X12 : ∀ w ∈ wsX120, w ∈ wsX12_doesSteps := by decide +kernel
set_option maxRecDepth 20000 in
theorem k_X12_doesSteps_7 : ZF wsX12_doesSteps RX12 7 12 0 RX12 TX12 47 := ⟨rfl, by decide, h_X12_doesSteps_X12, by decide +kernel⟩
set_option maxRecDepth 20000 in
theorem k_X12_doesSteps_36 : ZF wsX12_doesSteps RX12 36 12 22 RX12 TX12 47 := ⟨rfl, by decide, h_X12_doesSteps_X12, by decide +kernel⟩
set_option maxRecDepth 20000 in
theorem k_X12_doesSteps_39 : ZF wsX12_doesSteps RX12 39 12 23 RX12 TX12 47 := ⟨rfl, by decide, h_X12_doesSteps_X12, by decide +kernel⟩
set_option maxRecDepth 20000 in
theorem k_X12_doesSteps_42 : ZF wsX12_doesSteps RX12 42 12 24 RX12 TX12 47 := ⟨rfl, by decide, h_X12_doesSteps_X12, by decide +kernel⟩
set_option maxRecDepth 20000 in
theorem k_X12_doesSteps_45 : ZF wsX12_doesSteps RX12 45 12 25 RX12 TX12 47 := ⟨rfl, by decide, h_X12_doesSteps_X12, by decide +kernel⟩
set_option maxRecDepth 20000 in
theorem k_X12_doesSteps_254 : ZF wsX12_doesSteps RX12 254 12 26 RX12 TX12 47 := ⟨rfl, by decide, h_X12_doesSteps_X12, by decide +kernel⟩
set_option maxHeartbeats 8000000 in
set_option maxRecDepth 100000 in
theorem c_X12_doesSteps (l : Launch) (D : va_G) (cA : Nat → ClassId) (g : Nat → Nat) (sz : Nat) (h_t : Nat) (a_t : Nat → Nat) (o_t : Ob)  (o_t' : Ob) (rv : Int32) (hF : f_X12_doesSteps o_t = some (o_t', rv)) : Met l yX12_doesSteps wsX12_doesSteps ({ frames := 6, cells := 0, slots := 0, locals := 139 }) (va_Pc [.ref h_t] (PreW D cA g sz (w_X12_four cA h_t a_t o_t))) (va_Qi (fun (r : Int32) (_ : Unit) => r = rv) (PostW D cA sz (w_X12_four cA h_t a_t o_t) (w_X12_four cA h_t a_t o_t')) (va_A (w_X12_four cA h_t a_t o_t) sz)) 0 0 (va_A (w_X12_four cA h_t a_t o_t) sz) := by
  refine z_start (cc := cX12_doesSteps) (maxL := 4) (ret := (some .int)) (lv0 := [(0, .ref h_t)]) (Qc := fun sz => va_Qi (fun (r : Int32) (_ : Unit) => r = rv) (PostW D cA sz (w_X12_four cA h_t a_t o_t) (w_X12_four cA h_t a_t o_t')) (va_A (w_X12_four cA h_t a_t o_t) sz)) (free := fun sz => va_A (w_X12_four cA h_t a_t o_t) sz) (by decide +kernel) rfl rfl (Nat.le_of_ble_eq_true rfl) ?_
  intro p e R s m args below meth c A Q hR hA hQ X hr hin
  unfold f_X12_doesSteps at hF
  refine z_iconst (v := (0 : Int32)) X dX12_doesSteps_0 (by decide) ?_
  refine z_istore_n (lv' := [(1, .int (0 : Int32)), (0, .ref h_t)]) X dX12_doesSteps_1 rfl (by decide) rfl ?_
  refine z_iconst (v := (0 : Int32)) X dX12_doesSteps_2 (by decide) ?_
  refine z_istore_n (lv' := [(2, .int (0 : Int32)), (1, .int (0 : Int32)), (0, .ref h_t)]) X dX12_doesSteps_3 rfl (by decide) rfl ?_
  refine z_iconst (v := (0 : Int32)) X dX12_doesSteps_4 (by decide) ?_
  refine z_istore_n (lv' := [(3, .int (0 : Int32)), (2, .int (0 : Int32)), (1, .int (0 : Int32)), (0, .ref h_t)]) X dX12_doesSteps_5 rfl (by decide) rfl ?_
  obtain ⟨o56, k57, hL, hF⟩ := zb2_e hF
  have L58_x : ∀ (o56' : Ob) (k57' : Int32), (o56', k57') = (o56, k57) → ZW p l e R s m args below meth c D A 4 0 0 Q (w_X12_four cA h_t a_t o56') [(2, .int k57')] 152 [] := by
    intro o56' k57' hz
    cases hz
    refine z_iload_n X dX12_doesSteps_152 rfl 0 rfl ?_
    cases hF
    exact z_iret X hA hQ hr rfl dX12_doesSteps_153 (Nat.le_refl _) (Nat.le_refl _)
  obtain ⟨B107, hBB107, hL⟩ := zl4_b hL
  have L58 : ∀ (n : Nat) (o52 : Ob) (k53 : Int32) (k54 : Int32) (k55 : Int32), zl4 B107 n o52 k53 k54 k55 = some (o56, k57) → ZW p l e R s m args below meth c D A 4 0 0 Q (w_X12_four cA h_t a_t o52) [(0, .ref h_t), (1, .int k53), (2, .int k54), (3, .int k55)] 6 [] := by
    intro n
    induction n with
    | zero => intro o52 k53 k54 k55 hL; cases hL
    | succ n ih =>
      intro o52 k53 k54 k55 hL
      obtain ⟨zz59, hF, hL⟩ := zl4_e hL
      rw [hBB107] at hF
      refine z_aload_n X dX12_doesSteps_6 rfl 0 rfl ?_
      refine z_get (v := .ref (a_t 0)) X k_X12_doesSteps_7 0 rfl rfl dX12_doesSteps_7 ?_
      refine z_bipush (v := (7 : Int32)) X dX12_doesSteps_10 (by decide) ?_
      obtain ⟨g60, hF⟩ := gi_e hF
      refine z_iald X 1 rfl g60 dX12_doesSteps_12 ?_
      refine z_bipush (v := (40 : Int32)) X dX12_doesSteps_13 (by decide) ?_
      have hF := if_e hF
      refine z_icmp_ge (tgt := 152) X dX12_doesSteps_15 (by decide) (fun c106 => ?_) (fun c106 => ?_)
      · have hF := hF.1 c106
        cases hF
        have hL := Option.some.inj hL
        refine z_lv (lv' := [(2, .int k54)]) [2] rfl ?_
        exact L58_x o52 k54 hL
      · have hF := hF.2 c106
        refine z_iload_n X dX12_doesSteps_18 rfl 3 rfl ?_
        refine z_aload_n X dX12_doesSteps_19 rfl 0 rfl ?_
        refine z_get (v := .int (o52 26 0)) X k_X12_doesSteps_254 0 rfl rfl dX12_doesSteps_20 ?_
        obtain ⟨K63, eK63, hF⟩ := nx_e hF
        have K63_l : ∀ (_ : Unit), K63 () = some zz59 → ZW p l e R s m args below meth c D A 4 0 0 Q (w_X12_four cA h_t a_t o52) [(0, .ref h_t), (1, .int k53), (2, .int k54), (3, .int k55)] 30 [] := by
          intro _ hF
          rw [eK63] at hF
          refine z_iload_n X dX12_doesSteps_30 rfl 1 rfl ?_
          obtain ⟨K76, eK76, hF⟩ := nx_e hF
          have K76_l : ∀ (_ : Unit), K76 () = some zz59 → ZW p l e R s m args below meth c D A 4 0 0 Q (w_X12_four cA h_t a_t o52) [(0, .ref h_t), (1, .int k53), (2, .int k54), (3, .int k55)] 94 [] := by
            intro _ hF
            rw [eK76] at hF
            refine z_aload_n X dX12_doesSteps_94 rfl 0 rfl ?_
            refine z_get (v := .ref (a_t 22)) X k_X12_doesSteps_36 0 rfl rfl dX12_doesSteps_95 ?_
            refine z_iload_n X dX12_doesSteps_98 rfl 3 rfl ?_
            obtain ⟨g77, hF⟩ := gi_e hF
            refine z_iald X 9 rfl g77 dX12_doesSteps_99 ?_
            refine z_bipush (v := (99 : Int32)) X dX12_doesSteps_100 (by decide) ?_
            have hF := if_e hF
            refine z_icmp_le (tgt := 133) X dX12_doesSteps_102 (by decide) (fun c91 => ?_) (fun c91 => ?_)
            · have hF := hF.1 c91
              refine z_iload_n X dX12_doesSteps_133 rfl 2 rfl ?_
              refine z_aload_n X dX12_doesSteps_134 rfl 0 rfl ?_
              refine z_aload_n X dX12_doesSteps_135 rfl 0 rfl ?_
              refine z_get (v := .ref (a_t 22)) X k_X12_doesSteps_36 0 rfl rfl dX12_doesSteps_136 ?_
              refine z_iload_n X dX12_doesSteps_139 rfl 3 rfl ?_
              obtain ⟨g78, hF⟩ := gi_e hF
              refine z_iald X 9 rfl g78 dX12_doesSteps_140 ?_
              obtain ⟨o79, r80, hc81, hF⟩ := zb2_e hF
              refine z_Vi (As := [.int (o52 22 (Int32.toNatClampNeg k55))]) (rest := [.int k54]) (wc := (w_X12_four cA h_t a_t o52)) (wc' := (w_X12_four cA h_t a_t o79)) (ws' := (w_X12_four cA h_t a_t o79)) (rv := r80) X (cwV 1 X.2.2.2.2.1 gX12_doesSteps_X12_logs rfl rfl rfl (by decide +kernel) (by rw [hR]; exact ⟨Nat.le_of_ble_eq_true rfl, Nat.le_of_ble_eq_true rfl⟩)) (fun sz => c_X12_logs l D cA g sz h_t a_t o52 (o52 22 (Int32.toNatClampNeg k55)) o79 r80 hc81) [0, 1, 2, 3, 4, 5, 6, 7, 8, 9, 10, 11, 12, 13, 14, 15, 16, 17, 18, 19, 20, 21] [1000, 1001, 1002, 1003, 1004, 1005, 1006, 1007, 1008, 1009, 1010, 1011, 1012, 1013, 1014, 1015, 1016, 1017, 1018, 1019, 1020, 1021] rfl (by decide) rfl (by decide) rfl rfl rfl rfl rfl rfl (Nat.le_of_ble_eq_true rfl) dX12_doesSteps_141 ⟨Nat.zero_le _, Nat.zero_le _⟩ ?_
              refine z_iadd X dX12_doesSteps_144 ?_
              obtain ⟨x82, ex82, hF⟩ := nx_e hF
              refine z_nm ex82 ?_
              refine z_istore_n (lv' := [(2, .int x82), (0, .ref h_t), (1, .int k53), (3, .int k55)]) X dX12_doesSteps_145 rfl (by decide) rfl ?_
              obtain ⟨x83, ex83, hF⟩ := nx_e hF
              refine z_iinc (v := x83) (lv' := [(3, .int x83), (2, .int x82), (0, .ref h_t), (1, .int k53)]) (j := 3) X dX12_doesSteps_146 rfl (by rw [ex83]; rfl) (by decide) rfl ?_
              refine z_goto (tgt := 6) X dX12_doesSteps_149 (by decide) ?_
              cases hF
              refine z_lv (lv' := [(0, .ref h_t), (1, .int k53), (2, .int x82), (3, .int x83)]) [2, 3, 1, 0] rfl ?_
              exact ih o79 k53 x82 x83 hL
            · have hF := hF.2 c91
              refine z_aload_n X dX12_doesSteps_105 rfl 0 rfl ?_
              refine z_get (v := .ref (a_t 24)) X k_X12_doesSteps_42 0 rfl rfl dX12_doesSteps_106 ?_
              refine z_iload_n X dX12_doesSteps_109 rfl 1 rfl ?_
              refine z_iload_n X dX12_doesSteps_110 rfl 3 rfl ?_
              obtain ⟨g84, hF⟩ := gi_e hF
              obtain ⟨o85, eo85, hF⟩ := nx_e hF
              refine z_iast (ws' := (w_X12_four cA h_t a_t o85)) X 11 rfl g84 (by rw [eo85]; rfl) dX12_doesSteps_111 ?_
              refine z_aload_n X dX12_doesSteps_112 rfl 0 rfl ?_
              refine z_get (v := .ref (a_t 25)) X k_X12_doesSteps_45 0 rfl rfl dX12_doesSteps_113 ?_
              refine z_iload_n X dX12_doesSteps_116 rfl 1 rfl ?_
              refine z_aload_n X dX12_doesSteps_117 rfl 0 rfl ?_
              refine z_get (v := .ref (a_t 22)) X k_X12_doesSteps_36 0 rfl rfl dX12_doesSteps_118 ?_
              refine z_iload_n X dX12_doesSteps_121 rfl 3 rfl ?_
              obtain ⟨g86, hF⟩ := gi_e hF
              refine z_iald X 9 rfl g86 dX12_doesSteps_122 ?_
              refine z_bipush (v := (100 : Int32)) X dX12_doesSteps_123 (by decide) ?_
              refine z_isub X dX12_doesSteps_125 ?_
              obtain ⟨g87, hF⟩ := gi_e hF
              obtain ⟨o88, eo88, hF⟩ := nx_e hF
              refine z_iast (ws' := (w_X12_four cA h_t a_t o88)) X 12 rfl g87 (by rw [eo88]; rfl) dX12_doesSteps_126 ?_
              obtain ⟨x89, ex89, hF⟩ := nx_e hF
              refine z_iinc (v := x89) (lv' := [(1, .int x89), (0, .ref h_t), (2, .int k54), (3, .int k55)]) (j := 1) X dX12_doesSteps_127 rfl (by rw [ex89]; rfl) (by decide) rfl ?_
              refine z_goto (tgt := 146) X dX12_doesSteps_130 (by decide) ?_
              obtain ⟨x90, ex90, hF⟩ := nx_e hF
              refine z_iinc (v := x90) (lv' := [(3, .int x90), (1, .int x89), (0, .ref h_t), (2, .int k54)]) (j := 3) X dX12_doesSteps_146 rfl (by rw [ex90]; rfl) (by decide) rfl ?_
              refine z_goto (tgt := 6) X dX12_doesSteps_149 (by decide) ?_
              cases hF
              refine z_lv (lv' := [(0, .ref h_t), (1, .int x89), (2, .int k54), (3, .int x90)]) [2, 1, 3, 0] rfl ?_
              exact ih o88 x89 k54 x90 hL
          have hF := if_e hF
          refine z_if_le (tgt := 94) X dX12_doesSteps_31 (by decide) (fun c103 => ?_) (fun c103 => ?_)
          · have hF := hF.1 c103
            refine z_lv (lv' := [(0, .ref h_t), (1, .int k53), (2, .int k54), (3, .int k55)]) [0, 1, 2, 3] rfl ?_
            exact K76_l () hF
          · have hF := hF.2 c103
            refine z_iload_n X dX12_doesSteps_34 rfl 3 rfl ?_
            refine z_aload_n X dX12_doesSteps_35 rfl 0 rfl ?_
            refine z_get (v := .ref (a_t 23)) X k_X12_doesSteps_39 0 rfl rfl dX12_doesSteps_36 ?_
            refine z_aload_n X dX12_doesSteps_39 rfl 0 rfl ?_
            refine z_get (v := .ref (a_t 24)) X k_X12_doesSteps_42 0 rfl rfl dX12_doesSteps_40 ?_
            refine z_iload_n X dX12_doesSteps_43 rfl 1 rfl ?_
            refine z_iconst (v := (1 : Int32)) X dX12_doesSteps_44 (by decide) ?_
            refine z_isub X dX12_doesSteps_45 ?_
            obtain ⟨g92, hF⟩ := gi_e hF
            refine z_iald X 11 rfl g92 dX12_doesSteps_46 ?_
            obtain ⟨g93, hF⟩ := gi_e hF
            refine z_iald X 10 rfl g93 dX12_doesSteps_47 ?_
            have hF := if_e hF
            refine z_icmp_ne (tgt := 94) X dX12_doesSteps_48 (by decide) (fun c102 => ?_) (fun c102 => ?_)
            · have hF := hF.2 c102
              refine z_lv (lv' := [(0, .ref h_t), (1, .int k53), (2, .int k54), (3, .int k55)]) [0, 1, 2, 3] rfl ?_
              exact K76_l () hF
            · have hF := hF.1 c102
              refine z_aload_n X dX12_doesSteps_51 rfl 0 rfl ?_
              refine z_get (v := .ref (a_t 25)) X k_X12_doesSteps_45 0 rfl rfl dX12_doesSteps_52 ?_
              refine z_iload_n X dX12_doesSteps_55 rfl 1 rfl ?_
              refine z_iconst (v := (1 : Int32)) X dX12_doesSteps_56 (by decide) ?_
              refine z_isub X dX12_doesSteps_57 ?_
              refine z_dup2 X dX12_doesSteps_58 rfl rfl ?_
              obtain ⟨g94, hF⟩ := gi_e hF
              refine z_iald X 12 rfl g94 dX12_doesSteps_59 ?_
              refine z_iconst (v := (1 : Int32)) X dX12_doesSteps_60 (by decide) ?_
              refine z_isub X dX12_doesSteps_61 ?_
              obtain ⟨g95, hF⟩ := gi_e hF
              obtain ⟨o96, eo96, hF⟩ := nx_e hF
              refine z_iast (ws' := (w_X12_four cA h_t a_t o96)) X 12 rfl g95 (by rw [eo96]; rfl) dX12_doesSteps_62 ?_
              refine z_aload_n X dX12_doesSteps_63 rfl 0 rfl ?_
              refine z_get (v := .ref (a_t 25)) X k_X12_doesSteps_45 0 rfl rfl dX12_doesSteps_64 ?_
              refine z_iload_n X dX12_doesSteps_67 rfl 1 rfl ?_
              refine z_iconst (v := (1 : Int32)) X dX12_doesSteps_68 (by decide) ?_
              refine z_isub X dX12_doesSteps_69 ?_
              obtain ⟨g97, hF⟩ := gi_e hF
              refine z_iald X 12 rfl g97 dX12_doesSteps_70 ?_
              have hF := if_e hF
              refine z_if_le (tgt := 88) X dX12_doesSteps_71 (by decide) (fun c101 => ?_) (fun c101 => ?_)
              · have hF := hF.1 c101
                obtain ⟨x98, ex98, hF⟩ := nx_e hF
                refine z_iinc (v := x98) (lv' := [(1, .int x98), (0, .ref h_t), (2, .int k54), (3, .int k55)]) (j := 1) X dX12_doesSteps_88 rfl (by rw [ex98]; rfl) (by decide) rfl ?_
                refine z_goto (tgt := 6) X dX12_doesSteps_91 (by decide) ?_
                cases hF
                refine z_lv (lv' := [(0, .ref h_t), (1, .int x98), (2, .int k54), (3, .int k55)]) [1, 0, 2, 3] rfl ?_
                exact ih o96 x98 k54 k55 hL
              · have hF := hF.2 c101
                refine z_aload_n X dX12_doesSteps_74 rfl 0 rfl ?_
                refine z_get (v := .ref (a_t 24)) X k_X12_doesSteps_42 0 rfl rfl dX12_doesSteps_75 ?_
                refine z_iload_n X dX12_doesSteps_78 rfl 1 rfl ?_
                refine z_iconst (v := (1 : Int32)) X dX12_doesSteps_79 (by decide) ?_
                refine z_isub X dX12_doesSteps_80 ?_
                obtain ⟨g99, hF⟩ := gi_e hF
                refine z_iald X 11 rfl g99 dX12_doesSteps_81 ?_
                refine z_iconst (v := (1 : Int32)) X dX12_doesSteps_82 (by decide) ?_
                refine z_iadd X dX12_doesSteps_83 ?_
                obtain ⟨x100, ex100, hF⟩ := nx_e hF
                refine z_nm ex100 ?_
                refine z_istore_n (lv' := [(3, .int x100), (0, .ref h_t), (1, .int k53), (2, .int k54)]) X dX12_doesSteps_84 rfl (by decide) rfl ?_
                refine z_goto (tgt := 6) X dX12_doesSteps_85 (by decide) ?_
                cases hF
                refine z_lv (lv' := [(0, .ref h_t), (1, .int k53), (2, .int k54), (3, .int x100)]) [1, 2, 3, 0] rfl ?_
                exact ih o96 k53 k54 x100 hL
        have hF := if_e hF
        refine z_icmp_lt (tgt := 30) X dX12_doesSteps_23 (by decide) (fun c105 => ?_) (fun c105 => ?_)
        · have hF := hF.1 c105
          refine z_lv (lv' := [(0, .ref h_t), (1, .int k53), (2, .int k54), (3, .int k55)]) [0, 1, 2, 3] rfl ?_
          exact K63_l () hF
        · have hF := hF.2 c105
          refine z_iload_n X dX12_doesSteps_26 rfl 1 rfl ?_
          have hF := if_e hF
          refine z_if_le (tgt := 152) X dX12_doesSteps_27 (by decide) (fun c104 => ?_) (fun c104 => ?_)
          · have hF := hF.1 c104
            cases hF
            have hL := Option.some.inj hL
            refine z_lv (lv' := [(2, .int k54)]) [2] rfl ?_
            exact L58_x o52 k54 hL
          · have hF := hF.2 c104
            refine z_lv (lv' := [(0, .ref h_t), (1, .int k53), (2, .int k54), (3, .int k55)]) [0, 1, 2, 3] rfl ?_
            exact K63_l () hF
  refine z_lv (lv' := [(0, .ref h_t), (1, .int (0 : Int32)), (2, .int (0 : Int32)), (3, .int (0 : Int32))]) [3, 2, 1, 0] rfl ?_
  exact L58 FU o_t (0 : Int32) (0 : Int32) (0 : Int32) hL
set_option maxRecDepth 20000 in
theorem h_X12_names_X12 : ∀ w ∈ wsX120, w ∈ wsX12_names := by decide +kernel
set_option maxRecDepth 20000 in
theorem k_X12_names_96 : ZF wsX12_names RX12 96 12 14 RX12 TX12 47 := ⟨rfl, by decide, h_X12_names_X12, by decide +kernel⟩
set_option maxHeartbeats 8000000 in
set_option maxRecDepth 100000 in
theorem c_X12_names (l : Launch) (D : va_G) (cA : Nat → ClassId) (g : Nat → Nat) (sz : Nat) (h_t : Nat) (a_t : Nat → Nat) (o_t : Ob)  (o_t' : Ob) (rv : Int32) (hF : f_X12_names o_t = some (o_t', rv)) : Met l yX12_names wsX12_names ({ frames := 7, cells := 0, slots := 0, locals := 162 }) (va_Pc [.ref h_t] (PreW D cA g sz (w_X12_four cA h_t a_t o_t))) (va_Qi (fun (r : Int32) (_ : Unit) => r = rv) (PostW D cA sz (w_X12_four cA h_t a_t o_t) (w_X12_four cA h_t a_t o_t')) (va_A (w_X12_four cA h_t a_t o_t) sz)) 0 0 (va_A (w_X12_four cA h_t a_t o_t) sz) := by
  refine z_start (cc := cX12_names) (maxL := 1) (ret := (some .int)) (lv0 := [(0, .ref h_t)]) (Qc := fun sz => va_Qi (fun (r : Int32) (_ : Unit) => r = rv) (PostW D cA sz (w_X12_four cA h_t a_t o_t) (w_X12_four cA h_t a_t o_t')) (va_A (w_X12_four cA h_t a_t o_t) sz)) (free := fun sz => va_A (w_X12_four cA h_t a_t o_t) sz) (by decide +kernel) rfl rfl (Nat.le_of_ble_eq_true rfl) ?_
  intro p e R s m args below meth c A Q hR hA hQ X hr hin
  unfold f_X12_names at hF
  refine z_aload_n X dX12_names_0 rfl 0 rfl ?_
  obtain ⟨o1, r2, hc3, hF⟩ := zb2_e hF
  refine z_Vi (As := []) (rest := []) (wc := (w_X12_four cA h_t a_t o_t)) (wc' := (w_X12_four cA h_t a_t o1)) (ws' := (w_X12_four cA h_t a_t o1)) (rv := r2) X (cwV 0 X.2.2.2.2.1 gX12_names_X12_readsSteps rfl rfl rfl (by decide +kernel) (by rw [hR]; exact ⟨Nat.le_of_ble_eq_true rfl, Nat.le_of_ble_eq_true rfl⟩)) (fun sz => c_X12_readsSteps l D cA g sz h_t a_t o_t o1 r2 hc3) [0, 1, 2, 3, 4, 5, 6, 7, 8, 9, 10, 11, 12, 13, 14, 15, 16, 17, 18, 19, 20, 21] [1000, 1001, 1002, 1003, 1004, 1005, 1006, 1007, 1008, 1009, 1010, 1011, 1012, 1013, 1014, 1015, 1016, 1017, 1018, 1019, 1020, 1021] rfl (by decide) rfl (by decide) rfl rfl rfl rfl rfl rfl (Nat.le_of_ble_eq_true rfl) dX12_names_1 ⟨Nat.zero_le _, Nat.zero_le _⟩ ?_
  have hF := if_e hF
  refine z_if_ne (tgt := 16) X dX12_names_4 (by decide) (fun c11 => ?_) (fun c11 => ?_)
  · have hF := hF.2 c11
    refine z_aload_n X dX12_names_16 rfl 0 rfl ?_
    obtain ⟨o4, hc5, hF⟩ := zb1_e hF
    refine z_Vv (As := []) (rest := []) (wc := (w_X12_four cA h_t a_t o1)) (wc' := (w_X12_four cA h_t a_t o4)) (ws' := (w_X12_four cA h_t a_t o4)) X (cwV 0 X.2.2.2.2.1 gX12_names_X12_call rfl rfl rfl (by decide +kernel) (by rw [hR]; exact ⟨Nat.le_of_ble_eq_true rfl, Nat.le_of_ble_eq_true rfl⟩)) (fun sz => c_X12_call l D cA g sz h_t a_t o1 o4 hc5) [0, 1, 2, 3, 4, 5, 6, 7, 8, 9, 10, 11, 12, 13, 14, 15, 16, 17, 18, 19, 20, 21] [1000, 1001, 1002, 1003, 1004, 1005, 1006, 1007, 1008, 1009, 1010, 1011, 1012, 1013, 1014, 1015, 1016, 1017, 1018, 1019, 1020, 1021] rfl (by decide) rfl (by decide) rfl rfl rfl rfl rfl rfl (Nat.le_of_ble_eq_true rfl) dX12_names_17 ⟨Nat.zero_le _, Nat.zero_le _⟩ ?_
    refine z_aload_n X dX12_names_20 rfl 0 rfl ?_
    obtain ⟨o6, hc7, hF⟩ := zb1_e hF
    refine z_Vv (As := []) (rest := []) (wc := (w_X12_four cA h_t a_t o4)) (wc' := (w_X12_four cA h_t a_t o6)) (ws' := (w_X12_four cA h_t a_t o6)) X (cwV 0 X.2.2.2.2.1 gX12_names_X12_keeps rfl rfl rfl (by decide +kernel) (by rw [hR]; exact ⟨Nat.le_of_ble_eq_true rfl, Nat.le_of_ble_eq_true rfl⟩)) (fun sz => c_X12_keeps l D cA g sz h_t a_t o4 o6 hc7) [0, 1, 2, 3, 4, 5, 6, 7, 8, 9, 10, 11, 12, 13, 14, 15, 16, 17, 18, 19, 20, 21] [1000, 1001, 1002, 1003, 1004, 1005, 1006, 1007, 1008, 1009, 1010, 1011, 1012, 1013, 1014, 1015, 1016, 1017, 1018, 1019, 1020, 1021] rfl (by decide) rfl (by decide) rfl rfl rfl rfl rfl rfl (Nat.le_of_ble_eq_true rfl) dX12_names_21 ⟨Nat.zero_le _, Nat.zero_le _⟩ ?_
    refine z_aload_n X dX12_names_24 rfl 0 rfl ?_
    obtain ⟨o8, r9, hc10, hF⟩ := zb2_e hF
    refine z_Vi (As := []) (rest := []) (wc := (w_X12_four cA h_t a_t o6)) (wc' := (w_X12_four cA h_t a_t o8)) (ws' := (w_X12_four cA h_t a_t o8)) (rv := r9) X (cwV 0 X.2.2.2.2.1 gX12_names_X12_doesSteps rfl rfl rfl (by decide +kernel) (by rw [hR]; exact ⟨Nat.le_of_ble_eq_true rfl, Nat.le_of_ble_eq_true rfl⟩)) (fun sz => c_X12_doesSteps l D cA g sz h_t a_t o6 o8 r9 hc10) [0, 1, 2, 3, 4, 5, 6, 7, 8, 9, 10, 11, 12, 13, 14, 15, 16, 17, 18, 19, 20, 21] [1000, 1001, 1002, 1003, 1004, 1005, 1006, 1007, 1008, 1009, 1010, 1011, 1012, 1013, 1014, 1015, 1016, 1017, 1018, 1019, 1020, 1021] rfl (by decide) rfl (by decide) rfl rfl rfl rfl rfl rfl (Nat.le_of_ble_eq_true rfl) dX12_names_25 ⟨Nat.zero_le _, Nat.zero_le _⟩ ?_
    cases hF
    exact z_iret X hA hQ hr rfl dX12_names_28 (Nat.le_refl _) (Nat.le_refl _)
  · have hF := hF.1 c11
    refine z_sipush (v := (-1000 : Int32)) X dX12_names_7 (by decide) ?_
    refine z_aload_n X dX12_names_10 rfl 0 rfl ?_
    refine z_get (v := .int (o1 14 0)) X k_X12_names_96 0 rfl rfl dX12_names_11 ?_
    refine z_isub X dX12_names_14 ?_
    cases hF
    exact z_iret X hA hQ hr rfl dX12_names_15 (Nat.le_refl _) (Nat.le_refl _)
set_option maxRecDepth 20000 in
theorem h_X12_now_X12 : ∀ w ∈ wsX120, w ∈ wsX12_now := by decide +kernel
set_option maxRecDepth 20000 in
theorem k_X12_now_7 : ZF wsX12_now RX12 7 12 0 RX12 TX12 47 := ⟨rfl, by decide, h_X12_now_X12, by decide +kernel⟩
set_option maxRecDepth 20000 in
theorem k_X12_now_75 : ZF wsX12_now RX12 75 12 7 RX12 TX12 47 := ⟨rfl, by decide, h_X12_now_X12, by decide +kernel⟩
set_option maxHeartbeats 8000000 in
set_option maxRecDepth 100000 in
theorem c_X12_now (l : Launch) (D : va_G) (cA : Nat → ClassId) (g : Nat → Nat) (sz : Nat) (h_t : Nat) (a_t : Nat → Nat) (o_t : Ob) (v1 : Int32) (rv : Int32) (hF : f_X12_now o_t v1 = some rv) : Met l yX12_now wsX12_now ({ frames := 2, cells := 0, slots := 0, locals := 43 }) (va_Pc [.ref h_t, .int v1] (PreW D cA g sz (w_X12_four cA h_t a_t o_t))) (va_Qi (fun (r : Int32) (_ : Unit) => r = rv) (PostW D cA sz (w_X12_four cA h_t a_t o_t) (w_X12_four cA h_t a_t o_t)) (va_A (w_X12_four cA h_t a_t o_t) sz)) 0 0 (va_A (w_X12_four cA h_t a_t o_t) sz) := by
  refine z_start (cc := cX12_now) (maxL := 2) (ret := (some .int)) (lv0 := [(0, .ref h_t), (1, .int v1)]) (Qc := fun sz => va_Qi (fun (r : Int32) (_ : Unit) => r = rv) (PostW D cA sz (w_X12_four cA h_t a_t o_t) (w_X12_four cA h_t a_t o_t)) (va_A (w_X12_four cA h_t a_t o_t) sz)) (free := fun sz => va_A (w_X12_four cA h_t a_t o_t) sz) (by decide +kernel) rfl rfl (Nat.le_of_ble_eq_true rfl) ?_
  intro p e R s m args below meth c A Q hR hA hQ X hr hin
  unfold f_X12_now at hF
  refine z_iload_n X dX12_now_0 rfl 1 rfl ?_
  have hF := if_e hF
  by_cases c2 : v1 = (0 : Int32)
  · have hF := hF.1 c2
    refine z_tableIn (tgt := 56) X dX12_now_1 (by rw [c2]; decide) (by rw [c2]; decide) (by rw [c2]; rfl) (by decide) ?_
    refine z_aload_n X dX12_now_56 rfl 0 rfl ?_
    refine z_get (v := .ref (a_t 0)) X k_X12_now_7 0 rfl rfl dX12_now_57 ?_
    refine z_iconst (v := (0 : Int32)) X dX12_now_60 (by decide) ?_
    obtain ⟨g1, hF⟩ := gi_e hF
    refine z_iald X 1 rfl g1 dX12_now_61 ?_
    cases hF
    exact z_iret X hA hQ hr rfl dX12_now_62 (Nat.le_refl _) (Nat.le_refl _)
  have hF := hF.2 c2
  have tc2 : Int32.toInt v1 ≠ 0 := ne_t c2
  have hF := if_e hF
  by_cases c4 : v1 = (1 : Int32)
  · have hF := hF.1 c4
    refine z_tableIn (tgt := 63) X dX12_now_1 (by rw [c4]; decide) (by rw [c4]; decide) (by rw [c4]; rfl) (by decide) ?_
    refine z_aload_n X dX12_now_63 rfl 0 rfl ?_
    refine z_get (v := .ref (a_t 0)) X k_X12_now_7 0 rfl rfl dX12_now_64 ?_
    refine z_iconst (v := (1 : Int32)) X dX12_now_67 (by decide) ?_
    obtain ⟨g3, hF⟩ := gi_e hF
    refine z_iald X 1 rfl g3 dX12_now_68 ?_
    cases hF
    exact z_iret X hA hQ hr rfl dX12_now_69 (Nat.le_refl _) (Nat.le_refl _)
  have hF := hF.2 c4
  have tc4 : Int32.toInt v1 ≠ 1 := ne_t c4
  have hF := if_e hF
  by_cases c6 : v1 = (2 : Int32)
  · have hF := hF.1 c6
    refine z_tableIn (tgt := 70) X dX12_now_1 (by rw [c6]; decide) (by rw [c6]; decide) (by rw [c6]; rfl) (by decide) ?_
    refine z_aload_n X dX12_now_70 rfl 0 rfl ?_
    refine z_get (v := .ref (a_t 0)) X k_X12_now_7 0 rfl rfl dX12_now_71 ?_
    refine z_iconst (v := (2 : Int32)) X dX12_now_74 (by decide) ?_
    obtain ⟨g5, hF⟩ := gi_e hF
    refine z_iald X 1 rfl g5 dX12_now_75 ?_
    cases hF
    exact z_iret X hA hQ hr rfl dX12_now_76 (Nat.le_refl _) (Nat.le_refl _)
  have hF := hF.2 c6
  have tc6 : Int32.toInt v1 ≠ 2 := ne_t c6
  have hF := if_e hF
  by_cases c8 : v1 = (3 : Int32)
  · have hF := hF.1 c8
    refine z_tableIn (tgt := 77) X dX12_now_1 (by rw [c8]; decide) (by rw [c8]; decide) (by rw [c8]; rfl) (by decide) ?_
    refine z_aload_n X dX12_now_77 rfl 0 rfl ?_
    refine z_get (v := .ref (a_t 0)) X k_X12_now_7 0 rfl rfl dX12_now_78 ?_
    refine z_iconst (v := (3 : Int32)) X dX12_now_81 (by decide) ?_
    obtain ⟨g7, hF⟩ := gi_e hF
    refine z_iald X 1 rfl g7 dX12_now_82 ?_
    cases hF
    exact z_iret X hA hQ hr rfl dX12_now_83 (Nat.le_refl _) (Nat.le_refl _)
  have hF := hF.2 c8
  have tc8 : Int32.toInt v1 ≠ 3 := ne_t c8
  have hF := if_e hF
  by_cases c12 : v1 = (4 : Int32)
  · have hF := hF.1 c12
    refine z_tableIn (tgt := 84) X dX12_now_1 (by rw [c12]; decide) (by rw [c12]; decide) (by rw [c12]; rfl) (by decide) ?_
    refine z_aload_n X dX12_now_84 rfl 0 rfl ?_
    refine z_get (v := .ref (a_t 0)) X k_X12_now_7 0 rfl rfl dX12_now_85 ?_
    refine z_iconst (v := (0 : Int32)) X dX12_now_88 (by decide) ?_
    obtain ⟨g9, hF⟩ := gi_e hF
    refine z_iald X 1 rfl g9 dX12_now_89 ?_
    refine z_aload_n X dX12_now_90 rfl 0 rfl ?_
    obtain ⟨r10, hc11, hF⟩ := zb1_e hF
    refine z_Vi (As := []) (rest := [.int (o_t 0 (Int32.toNatClampNeg (0 : Int32)))]) (wc := (w_X12_four cA h_t a_t o_t)) (wc' := (w_X12_four cA h_t a_t o_t)) (ws' := (w_X12_four cA h_t a_t o_t)) (rv := r10) X (cwV 0 X.2.2.2.2.1 gX12_now_X12_lies rfl rfl rfl (by decide +kernel) (by rw [hR]; exact ⟨Nat.le_of_ble_eq_true rfl, Nat.le_of_ble_eq_true rfl⟩)) (fun sz => c_X12_lies l D cA g sz h_t a_t o_t r10 hc11) [0, 1, 2, 3, 4, 5, 6, 7, 8, 9, 10, 11, 12, 13, 14, 15, 16, 17, 18, 19, 20, 21] [1000, 1001, 1002, 1003, 1004, 1005, 1006, 1007, 1008, 1009, 1010, 1011, 1012, 1013, 1014, 1015, 1016, 1017, 1018, 1019, 1020, 1021] rfl (by decide) rfl (by decide) rfl rfl rfl rfl rfl rfl (Nat.le_of_ble_eq_true rfl) dX12_now_91 ⟨Nat.zero_le _, Nat.zero_le _⟩ ?_
    refine z_isub X dX12_now_94 ?_
    cases hF
    exact z_iret X hA hQ hr rfl dX12_now_95 (Nat.le_refl _) (Nat.le_refl _)
  have hF := hF.2 c12
  have tc12 : Int32.toInt v1 ≠ 4 := ne_t c12
  have hF := if_e hF
  by_cases c14 : v1 = (5 : Int32)
  · have hF := hF.1 c14
    refine z_tableIn (tgt := 96) X dX12_now_1 (by rw [c14]; decide) (by rw [c14]; decide) (by rw [c14]; rfl) (by decide) ?_
    refine z_aload_n X dX12_now_96 rfl 0 rfl ?_
    refine z_get (v := .ref (a_t 0)) X k_X12_now_7 0 rfl rfl dX12_now_97 ?_
    refine z_iconst (v := (4 : Int32)) X dX12_now_100 (by decide) ?_
    obtain ⟨g13, hF⟩ := gi_e hF
    refine z_iald X 1 rfl g13 dX12_now_101 ?_
    cases hF
    exact z_iret X hA hQ hr rfl dX12_now_102 (Nat.le_refl _) (Nat.le_refl _)
  have hF := hF.2 c14
  have tc14 : Int32.toInt v1 ≠ 5 := ne_t c14
  have hF := if_e hF
  by_cases c16 : v1 = (6 : Int32)
  · have hF := hF.1 c16
    refine z_tableIn (tgt := 103) X dX12_now_1 (by rw [c16]; decide) (by rw [c16]; decide) (by rw [c16]; rfl) (by decide) ?_
    refine z_aload_n X dX12_now_103 rfl 0 rfl ?_
    refine z_get (v := .ref (a_t 0)) X k_X12_now_7 0 rfl rfl dX12_now_104 ?_
    refine z_bipush (v := (7 : Int32)) X dX12_now_107 (by decide) ?_
    obtain ⟨g15, hF⟩ := gi_e hF
    refine z_iald X 1 rfl g15 dX12_now_109 ?_
    cases hF
    exact z_iret X hA hQ hr rfl dX12_now_110 (Nat.le_refl _) (Nat.le_refl _)
  have hF := hF.2 c16
  have tc16 : Int32.toInt v1 ≠ 6 := ne_t c16
  have hF := if_e hF
  by_cases c17 : v1 = (7 : Int32)
  · have hF := hF.1 c17
    refine z_tableIn (tgt := 111) X dX12_now_1 (by rw [c17]; decide) (by rw [c17]; decide) (by rw [c17]; rfl) (by decide) ?_
    refine z_aload_n X dX12_now_111 rfl 0 rfl ?_
    refine z_get (v := .int (o_t 7 0)) X k_X12_now_75 0 rfl rfl dX12_now_112 ?_
    cases hF
    exact z_iret X hA hQ hr rfl dX12_now_115 (Nat.le_refl _) (Nat.le_refl _)
  have hF := hF.2 c17
  have tc17 : Int32.toInt v1 ≠ 7 := ne_t c17
  have hF := if_e hF
  by_cases c19 : v1 = (8 : Int32)
  · have hF := hF.1 c19
    refine z_tableIn (tgt := 116) X dX12_now_1 (by rw [c19]; decide) (by rw [c19]; decide) (by rw [c19]; rfl) (by decide) ?_
    refine z_aload_n X dX12_now_116 rfl 0 rfl ?_
    refine z_get (v := .ref (a_t 0)) X k_X12_now_7 0 rfl rfl dX12_now_117 ?_
    refine z_iconst (v := (5 : Int32)) X dX12_now_120 (by decide) ?_
    obtain ⟨g18, hF⟩ := gi_e hF
    refine z_iald X 1 rfl g18 dX12_now_121 ?_
    cases hF
    exact z_iret X hA hQ hr rfl dX12_now_122 (Nat.le_refl _) (Nat.le_refl _)
  have hF := hF.2 c19
  have tc19 : Int32.toInt v1 ≠ 8 := ne_t c19
  have hF := if_e hF
  by_cases c21 : v1 = (9 : Int32)
  · have hF := hF.1 c21
    refine z_tableIn (tgt := 123) X dX12_now_1 (by rw [c21]; decide) (by rw [c21]; decide) (by rw [c21]; rfl) (by decide) ?_
    refine z_aload_n X dX12_now_123 rfl 0 rfl ?_
    refine z_get (v := .ref (a_t 0)) X k_X12_now_7 0 rfl rfl dX12_now_124 ?_
    refine z_bipush (v := (6 : Int32)) X dX12_now_127 (by decide) ?_
    obtain ⟨g20, hF⟩ := gi_e hF
    refine z_iald X 1 rfl g20 dX12_now_129 ?_
    cases hF
    exact z_iret X hA hQ hr rfl dX12_now_130 (Nat.le_refl _) (Nat.le_refl _)
  have hF := hF.2 c21
  have tc21 : Int32.toInt v1 ≠ 9 := ne_t c21
  refine z_tableOut (tgt := 131) X dX12_now_1 (by omega) (by decide) ?_
  refine z_iconst (v := (-1 : Int32)) X dX12_now_131 (by decide) ?_
  cases hF
  exact z_iret X hA hQ hr rfl dX12_now_132 (Nat.le_refl _) (Nat.le_refl _)
set_option maxRecDepth 20000 in
theorem h_X12_item__X12 : ∀ w ∈ wsX120, w ∈ wsX12_item_ := by decide +kernel
set_option maxRecDepth 20000 in
theorem k_X12_item__7 : ZF wsX12_item_ RX12 7 12 0 RX12 TX12 47 := ⟨rfl, by decide, h_X12_item__X12, by decide +kernel⟩
set_option maxHeartbeats 8000000 in
set_option maxRecDepth 100000 in
theorem c_X12_item_ (l : Launch) (D : va_G) (cA : Nat → ClassId) (g : Nat → Nat) (sz : Nat) (h_t : Nat) (a_t : Nat → Nat) (o_t : Ob) (v1 : Int32) (v2 : Int32) (rv : Int32) (hF : f_X12_item_ o_t v1 v2 = some rv) : Met l yX12_item_ wsX12_item_ ({ frames := 2, cells := 0, slots := 0, locals := 43 }) (va_Pc [.ref h_t, .int v1, .int v2] (PreW D cA g sz (w_X12_four cA h_t a_t o_t))) (va_Qi (fun (r : Int32) (_ : Unit) => r = rv) (PostW D cA sz (w_X12_four cA h_t a_t o_t) (w_X12_four cA h_t a_t o_t)) (va_A (w_X12_four cA h_t a_t o_t) sz)) 0 0 (va_A (w_X12_four cA h_t a_t o_t) sz) := by
  refine z_start (cc := cX12_item_) (maxL := 3) (ret := (some .int)) (lv0 := [(0, .ref h_t), (1, .int v1), (2, .int v2)]) (Qc := fun sz => va_Qi (fun (r : Int32) (_ : Unit) => r = rv) (PostW D cA sz (w_X12_four cA h_t a_t o_t) (w_X12_four cA h_t a_t o_t)) (va_A (w_X12_four cA h_t a_t o_t) sz)) (free := fun sz => va_A (w_X12_four cA h_t a_t o_t) sz) (by decide +kernel) rfl rfl (Nat.le_of_ble_eq_true rfl) ?_
  intro p e R s m args below meth c A Q hR hA hQ X hr hin
  unfold f_X12_item_ at hF
  refine z_aload_n X dX12_item__0 rfl 0 rfl ?_
  refine z_iload_n X dX12_item__1 rfl 1 rfl ?_
  obtain ⟨r1, hc2, hF⟩ := zb1_e hF
  refine z_Vi (As := [.int v1]) (rest := []) (wc := (w_X12_four cA h_t a_t o_t)) (wc' := (w_X12_four cA h_t a_t o_t)) (ws' := (w_X12_four cA h_t a_t o_t)) (rv := r1) X (cwV 1 X.2.2.2.2.1 gX12_item__X12_isItem rfl rfl rfl (by decide +kernel) (by rw [hR]; exact ⟨Nat.le_of_ble_eq_true rfl, Nat.le_of_ble_eq_true rfl⟩)) (fun sz => c_X12_isItem l D cA g sz h_t a_t o_t v1 r1 hc2) [0, 1, 2, 3, 4, 5, 6, 7, 8, 9, 10, 11, 12, 13, 14, 15, 16, 17, 18, 19, 20, 21] [1000, 1001, 1002, 1003, 1004, 1005, 1006, 1007, 1008, 1009, 1010, 1011, 1012, 1013, 1014, 1015, 1016, 1017, 1018, 1019, 1020, 1021] rfl (by decide) rfl (by decide) rfl rfl rfl rfl rfl rfl (Nat.le_of_ble_eq_true rfl) dX12_item__2 ⟨Nat.zero_le _, Nat.zero_le _⟩ ?_
  have hF := if_e hF
  refine z_if_ne (tgt := 10) X dX12_item__5 (by decide) (fun c15 => ?_) (fun c15 => ?_)
  · have hF := hF.2 c15
    refine z_iload_n X dX12_item__10 rfl 2 rfl ?_
    have hF := if_e hF
    by_cases c4 : v2 = (0 : Int32)
    · have hF := hF.1 c4
      refine z_tableIn (tgt := 48) X dX12_item__11 (by rw [c4]; decide) (by rw [c4]; decide) (by rw [c4]; rfl) (by decide) ?_
      refine z_aload_n X dX12_item__48 rfl 0 rfl ?_
      refine z_get (v := .ref (a_t 0)) X k_X12_item__7 0 rfl rfl dX12_item__49 ?_
      refine z_bipush (v := (8 : Int32)) X dX12_item__52 (by decide) ?_
      refine z_iload_n X dX12_item__54 rfl 1 rfl ?_
      refine z_iadd X dX12_item__55 ?_
      obtain ⟨g3, hF⟩ := gi_e hF
      refine z_iald X 1 rfl g3 dX12_item__56 ?_
      cases hF
      exact z_iret X hA hQ hr rfl dX12_item__57 (Nat.le_refl _) (Nat.le_refl _)
    have hF := hF.2 c4
    have tc4 : Int32.toInt v2 ≠ 0 := ne_t c4
    have hF := if_e hF
    by_cases c6 : v2 = (1 : Int32)
    · have hF := hF.1 c6
      refine z_tableIn (tgt := 58) X dX12_item__11 (by rw [c6]; decide) (by rw [c6]; decide) (by rw [c6]; rfl) (by decide) ?_
      refine z_aload_n X dX12_item__58 rfl 0 rfl ?_
      refine z_get (v := .ref (a_t 0)) X k_X12_item__7 0 rfl rfl dX12_item__59 ?_
      refine z_bipush (v := (16 : Int32)) X dX12_item__62 (by decide) ?_
      refine z_iload_n X dX12_item__64 rfl 1 rfl ?_
      refine z_iadd X dX12_item__65 ?_
      obtain ⟨g5, hF⟩ := gi_e hF
      refine z_iald X 1 rfl g5 dX12_item__66 ?_
      cases hF
      exact z_iret X hA hQ hr rfl dX12_item__67 (Nat.le_refl _) (Nat.le_refl _)
    have hF := hF.2 c6
    have tc6 : Int32.toInt v2 ≠ 1 := ne_t c6
    have hF := if_e hF
    by_cases c8 : v2 = (2 : Int32)
    · have hF := hF.1 c8
      refine z_tableIn (tgt := 68) X dX12_item__11 (by rw [c8]; decide) (by rw [c8]; decide) (by rw [c8]; rfl) (by decide) ?_
      refine z_aload_n X dX12_item__68 rfl 0 rfl ?_
      refine z_get (v := .ref (a_t 0)) X k_X12_item__7 0 rfl rfl dX12_item__69 ?_
      refine z_bipush (v := (24 : Int32)) X dX12_item__72 (by decide) ?_
      refine z_iload_n X dX12_item__74 rfl 1 rfl ?_
      refine z_iadd X dX12_item__75 ?_
      obtain ⟨g7, hF⟩ := gi_e hF
      refine z_iald X 1 rfl g7 dX12_item__76 ?_
      cases hF
      exact z_iret X hA hQ hr rfl dX12_item__77 (Nat.le_refl _) (Nat.le_refl _)
    have hF := hF.2 c8
    have tc8 : Int32.toInt v2 ≠ 2 := ne_t c8
    have hF := if_e hF
    by_cases c10 : v2 = (3 : Int32)
    · have hF := hF.1 c10
      refine z_tableIn (tgt := 78) X dX12_item__11 (by rw [c10]; decide) (by rw [c10]; decide) (by rw [c10]; rfl) (by decide) ?_
      refine z_aload_n X dX12_item__78 rfl 0 rfl ?_
      refine z_get (v := .ref (a_t 0)) X k_X12_item__7 0 rfl rfl dX12_item__79 ?_
      refine z_bipush (v := (32 : Int32)) X dX12_item__82 (by decide) ?_
      refine z_iload_n X dX12_item__84 rfl 1 rfl ?_
      refine z_iadd X dX12_item__85 ?_
      obtain ⟨g9, hF⟩ := gi_e hF
      refine z_iald X 1 rfl g9 dX12_item__86 ?_
      cases hF
      exact z_iret X hA hQ hr rfl dX12_item__87 (Nat.le_refl _) (Nat.le_refl _)
    have hF := hF.2 c10
    have tc10 : Int32.toInt v2 ≠ 3 := ne_t c10
    have hF := if_e hF
    by_cases c12 : v2 = (4 : Int32)
    · have hF := hF.1 c12
      refine z_tableIn (tgt := 88) X dX12_item__11 (by rw [c12]; decide) (by rw [c12]; decide) (by rw [c12]; rfl) (by decide) ?_
      refine z_aload_n X dX12_item__88 rfl 0 rfl ?_
      refine z_get (v := .ref (a_t 0)) X k_X12_item__7 0 rfl rfl dX12_item__89 ?_
      refine z_bipush (v := (40 : Int32)) X dX12_item__92 (by decide) ?_
      refine z_iload_n X dX12_item__94 rfl 1 rfl ?_
      refine z_iadd X dX12_item__95 ?_
      obtain ⟨g11, hF⟩ := gi_e hF
      refine z_iald X 1 rfl g11 dX12_item__96 ?_
      cases hF
      exact z_iret X hA hQ hr rfl dX12_item__97 (Nat.le_refl _) (Nat.le_refl _)
    have hF := hF.2 c12
    have tc12 : Int32.toInt v2 ≠ 4 := ne_t c12
    have hF := if_e hF
    by_cases c14 : v2 = (5 : Int32)
    · have hF := hF.1 c14
      refine z_tableIn (tgt := 98) X dX12_item__11 (by rw [c14]; decide) (by rw [c14]; decide) (by rw [c14]; rfl) (by decide) ?_
      refine z_aload_n X dX12_item__98 rfl 0 rfl ?_
      refine z_get (v := .ref (a_t 0)) X k_X12_item__7 0 rfl rfl dX12_item__99 ?_
      refine z_bipush (v := (48 : Int32)) X dX12_item__102 (by decide) ?_
      refine z_iload_n X dX12_item__104 rfl 1 rfl ?_
      refine z_iadd X dX12_item__105 ?_
      obtain ⟨g13, hF⟩ := gi_e hF
      refine z_iald X 1 rfl g13 dX12_item__106 ?_
      cases hF
      exact z_iret X hA hQ hr rfl dX12_item__107 (Nat.le_refl _) (Nat.le_refl _)
    have hF := hF.2 c14
    have tc14 : Int32.toInt v2 ≠ 5 := ne_t c14
    refine z_tableOut (tgt := 108) X dX12_item__11 (by omega) (by decide) ?_
    refine z_iconst (v := (-1 : Int32)) X dX12_item__108 (by decide) ?_
    cases hF
    exact z_iret X hA hQ hr rfl dX12_item__109 (Nat.le_refl _) (Nat.le_refl _)
  · have hF := hF.1 c15
    refine z_iconst (v := (-1 : Int32)) X dX12_item__8 (by decide) ?_
    cases hF
    exact z_iret X hA hQ hr rfl dX12_item__9 (Nat.le_refl _) (Nat.le_refl _)
set_option maxRecDepth 20000 in
theorem h_X12_isLogged_X12 : ∀ w ∈ wsX120, w ∈ wsX12_isLogged := by decide +kernel
set_option maxRecDepth 20000 in
theorem k_X12_isLogged_7 : ZF wsX12_isLogged RX12 7 12 0 RX12 TX12 47 := ⟨rfl, by decide, h_X12_isLogged_X12, by decide +kernel⟩
set_option maxHeartbeats 8000000 in
set_option maxRecDepth 100000 in
theorem c_X12_isLogged (l : Launch) (D : va_G) (cA : Nat → ClassId) (g : Nat → Nat) (sz : Nat) (h_t : Nat) (a_t : Nat → Nat) (o_t : Ob) (v1 : Int32) (rv : Int32) (hF : f_X12_isLogged o_t v1 = some rv) : Met l yX12_isLogged wsX12_isLogged ({ frames := 1, cells := 0, slots := 0, locals := 22 }) (va_Pc [.ref h_t, .int v1] (PreW D cA g sz (w_X12_four cA h_t a_t o_t))) (va_Qi (fun (r : Int32) (_ : Unit) => r = rv) (PostW D cA sz (w_X12_four cA h_t a_t o_t) (w_X12_four cA h_t a_t o_t)) (va_A (w_X12_four cA h_t a_t o_t) sz)) 0 0 (va_A (w_X12_four cA h_t a_t o_t) sz) := by
  refine z_start (cc := cX12_isLogged) (maxL := 2) (ret := (some .boolean)) (lv0 := [(0, .ref h_t), (1, .int v1)]) (Qc := fun sz => va_Qi (fun (r : Int32) (_ : Unit) => r = rv) (PostW D cA sz (w_X12_four cA h_t a_t o_t) (w_X12_four cA h_t a_t o_t)) (va_A (w_X12_four cA h_t a_t o_t) sz)) (free := fun sz => va_A (w_X12_four cA h_t a_t o_t) sz) (by decide +kernel) rfl rfl (Nat.le_of_ble_eq_true rfl) ?_
  intro p e R s m args below meth c A Q hR hA hQ X hr hin
  unfold f_X12_isLogged at hF
  refine z_iload_n X dX12_isLogged_0 rfl 1 rfl ?_
  refine z_iconst (v := (0 : Int32)) X dX12_isLogged_1 (by decide) ?_
  refine z_aload_n X dX12_isLogged_2 rfl 0 rfl ?_
  refine z_get (v := .ref (a_t 0)) X k_X12_isLogged_7 0 rfl rfl dX12_isLogged_3 ?_
  refine z_bipush (v := (7 : Int32)) X dX12_isLogged_6 (by decide) ?_
  obtain ⟨g1, hF⟩ := gi_e hF
  refine z_iald X 1 rfl g1 dX12_isLogged_8 ?_
  refine z_iconst (v := (1 : Int32)) X dX12_isLogged_9 (by decide) ?_
  refine z_isub X dX12_isLogged_10 ?_
  obtain ⟨r2, hc3, hF⟩ := zb1_e hF
  refine z_Si (As := [.int v1, .int (0 : Int32), .int ((o_t 0 (Int32.toNatClampNeg (7 : Int32))) - (1 : Int32))]) (rest := []) (wc := ([] : va_W)) (wc' := ([] : va_W)) (ws' := (w_X12_four cA h_t a_t o_t)) (rv := r2) X (va_cwS 3 X.2.2.2.2.1 gX12_isLogged_X12_isIn rfl rfl rfl (by decide +kernel) (by rw [hR]; exact ⟨Nat.le_of_ble_eq_true rfl, Nat.le_of_ble_eq_true rfl⟩)) (fun sz => c_X12_isIn l D cA g sz v1 (0 : Int32) ((o_t 0 (Int32.toNatClampNeg (7 : Int32))) - (1 : Int32)) r2 hc3) [] [0, 1, 2, 3, 4, 5, 6, 7, 8, 9, 10, 11, 12, 13, 14, 15, 16, 17, 18, 19, 20, 21] rfl (by decide) rfl (by decide) rfl rfl rfl (Nat.le_of_ble_eq_true rfl) dX12_isLogged_11 ⟨Nat.zero_le _, Nat.zero_le _⟩ ?_
  obtain ⟨g4, hF⟩ := gz_e hF
  cases hF
  exact z_zret X hA hQ hr g4  rfl dX12_isLogged_14 (Nat.le_refl _) (Nat.le_refl _)
set_option maxRecDepth 20000 in
theorem h_X12_log_X12 : ∀ w ∈ wsX120, w ∈ wsX12_log := by decide +kernel
set_option maxRecDepth 20000 in
theorem k_X12_log_7 : ZF wsX12_log RX12 7 12 0 RX12 TX12 47 := ⟨rfl, by decide, h_X12_log_X12, by decide +kernel⟩
set_option maxHeartbeats 8000000 in
set_option maxRecDepth 100000 in
theorem c_X12_log (l : Launch) (D : va_G) (cA : Nat → ClassId) (g : Nat → Nat) (sz : Nat) (h_t : Nat) (a_t : Nat → Nat) (o_t : Ob) (v1 : Int32) (v2 : Int32) (rv : Int32) (hF : f_X12_log o_t v1 v2 = some rv) : Met l yX12_log wsX12_log ({ frames := 2, cells := 0, slots := 0, locals := 43 }) (va_Pc [.ref h_t, .int v1, .int v2] (PreW D cA g sz (w_X12_four cA h_t a_t o_t))) (va_Qi (fun (r : Int32) (_ : Unit) => r = rv) (PostW D cA sz (w_X12_four cA h_t a_t o_t) (w_X12_four cA h_t a_t o_t)) (va_A (w_X12_four cA h_t a_t o_t) sz)) 0 0 (va_A (w_X12_four cA h_t a_t o_t) sz) := by
  refine z_start (cc := cX12_log) (maxL := 3) (ret := (some .int)) (lv0 := [(0, .ref h_t), (1, .int v1), (2, .int v2)]) (Qc := fun sz => va_Qi (fun (r : Int32) (_ : Unit) => r = rv) (PostW D cA sz (w_X12_four cA h_t a_t o_t) (w_X12_four cA h_t a_t o_t)) (va_A (w_X12_four cA h_t a_t o_t) sz)) (free := fun sz => va_A (w_X12_four cA h_t a_t o_t) sz) (by decide +kernel) rfl rfl (Nat.le_of_ble_eq_true rfl) ?_
  intro p e R s m args below meth c A Q hR hA hQ X hr hin
  unfold f_X12_log at hF
  refine z_aload_n X dX12_log_0 rfl 0 rfl ?_
  refine z_iload_n X dX12_log_1 rfl 1 rfl ?_
  obtain ⟨r1, hc2, hF⟩ := zb1_e hF
  refine z_Vi (As := [.int v1]) (rest := []) (wc := (w_X12_four cA h_t a_t o_t)) (wc' := (w_X12_four cA h_t a_t o_t)) (ws' := (w_X12_four cA h_t a_t o_t)) (rv := r1) X (cwV 1 X.2.2.2.2.1 gX12_log_X12_isLogged rfl rfl rfl (by decide +kernel) (by rw [hR]; exact ⟨Nat.le_of_ble_eq_true rfl, Nat.le_of_ble_eq_true rfl⟩)) (fun sz => c_X12_isLogged l D cA g sz h_t a_t o_t v1 r1 hc2) [0, 1, 2, 3, 4, 5, 6, 7, 8, 9, 10, 11, 12, 13, 14, 15, 16, 17, 18, 19, 20, 21] [1000, 1001, 1002, 1003, 1004, 1005, 1006, 1007, 1008, 1009, 1010, 1011, 1012, 1013, 1014, 1015, 1016, 1017, 1018, 1019, 1020, 1021] rfl (by decide) rfl (by decide) rfl rfl rfl rfl rfl rfl (Nat.le_of_ble_eq_true rfl) dX12_log_2 ⟨Nat.zero_le _, Nat.zero_le _⟩ ?_
  have hF := if_e hF
  refine z_if_ne (tgt := 10) X dX12_log_5 (by decide) (fun c9 => ?_) (fun c9 => ?_)
  · have hF := hF.2 c9
    refine z_iload_n X dX12_log_10 rfl 2 rfl ?_
    have hF := if_e hF
    refine z_if_ne (tgt := 26) X dX12_log_11 (by decide) (fun c8 => ?_) (fun c8 => ?_)
    · have hF := hF.2 c8
      refine z_iload_n X dX12_log_26 rfl 2 rfl ?_
      refine z_iconst (v := (1 : Int32)) X dX12_log_27 (by decide) ?_
      have hF := if_e hF
      refine z_icmp_ne (tgt := 44) X dX12_log_28 (by decide) (fun c6 => ?_) (fun c6 => ?_)
      · have hF := hF.2 c6
        refine z_iload_n X dX12_log_44 rfl 2 rfl ?_
        refine z_iconst (v := (2 : Int32)) X dX12_log_45 (by decide) ?_
        have hF := if_e hF
        refine z_icmp_ne (tgt := 62) X dX12_log_46 (by decide) (fun c4 => ?_) (fun c4 => ?_)
        · have hF := hF.2 c4
          refine z_iconst (v := (-1 : Int32)) X dX12_log_62 (by decide) ?_
          cases hF
          exact z_iret X hA hQ hr rfl dX12_log_63 (Nat.le_refl _) (Nat.le_refl _)
        · have hF := hF.1 c4
          refine z_aload_n X dX12_log_49 rfl 0 rfl ?_
          refine z_get (v := .ref (a_t 0)) X k_X12_log_7 0 rfl rfl dX12_log_50 ?_
          refine z_sipush (v := (184 : Int32)) X dX12_log_53 (by decide) ?_
          refine z_iload_n X dX12_log_56 rfl 1 rfl ?_
          refine z_iadd X dX12_log_57 ?_
          obtain ⟨g3, hF⟩ := gi_e hF
          refine z_iald X 1 rfl g3 dX12_log_58 ?_
          refine z_goto (tgt := 63) X dX12_log_59 (by decide) ?_
          cases hF
          exact z_iret X hA hQ hr rfl dX12_log_63 (Nat.le_refl _) (Nat.le_refl _)
      · have hF := hF.1 c6
        refine z_aload_n X dX12_log_31 rfl 0 rfl ?_
        refine z_get (v := .ref (a_t 0)) X k_X12_log_7 0 rfl rfl dX12_log_32 ?_
        refine z_sipush (v := (144 : Int32)) X dX12_log_35 (by decide) ?_
        refine z_iload_n X dX12_log_38 rfl 1 rfl ?_
        refine z_iadd X dX12_log_39 ?_
        obtain ⟨g5, hF⟩ := gi_e hF
        refine z_iald X 1 rfl g5 dX12_log_40 ?_
        refine z_goto (tgt := 63) X dX12_log_41 (by decide) ?_
        cases hF
        exact z_iret X hA hQ hr rfl dX12_log_63 (Nat.le_refl _) (Nat.le_refl _)
    · have hF := hF.1 c8
      refine z_aload_n X dX12_log_14 rfl 0 rfl ?_
      refine z_get (v := .ref (a_t 0)) X k_X12_log_7 0 rfl rfl dX12_log_15 ?_
      refine z_bipush (v := (104 : Int32)) X dX12_log_18 (by decide) ?_
      refine z_iload_n X dX12_log_20 rfl 1 rfl ?_
      refine z_iadd X dX12_log_21 ?_
      obtain ⟨g7, hF⟩ := gi_e hF
      refine z_iald X 1 rfl g7 dX12_log_22 ?_
      refine z_goto (tgt := 63) X dX12_log_23 (by decide) ?_
      cases hF
      exact z_iret X hA hQ hr rfl dX12_log_63 (Nat.le_refl _) (Nat.le_refl _)
  · have hF := hF.1 c9
    refine z_iconst (v := (-1 : Int32)) X dX12_log_8 (by decide) ?_
    cases hF
    exact z_iret X hA hQ hr rfl dX12_log_9 (Nat.le_refl _) (Nat.le_refl _)
set_option maxRecDepth 20000 in
theorem h_X12_empties_X12 : ∀ w ∈ wsX120, w ∈ wsX12_empties := by decide +kernel
set_option maxRecDepth 20000 in
theorem k_X12_empties_7 : ZF wsX12_empties RX12 7 12 0 RX12 TX12 47 := ⟨rfl, by decide, h_X12_empties_X12, by decide +kernel⟩
set_option maxHeartbeats 8000000 in
set_option maxRecDepth 100000 in
theorem c_X12_empties (l : Launch) (D : va_G) (cA : Nat → ClassId) (g : Nat → Nat) (sz : Nat) (h_t : Nat) (a_t : Nat → Nat) (o_t : Ob)  (o_t' : Ob) (rv : Int32) (hF : f_X12_empties o_t = some (o_t', rv)) : Met l yX12_empties wsX12_empties ({ frames := 1, cells := 0, slots := 0, locals := 22 }) (va_Pc [.ref h_t] (PreW D cA g sz (w_X12_four cA h_t a_t o_t))) (va_Qi (fun (r : Int32) (_ : Unit) => r = rv) (PostW D cA sz (w_X12_four cA h_t a_t o_t) (w_X12_four cA h_t a_t o_t')) (va_A (w_X12_four cA h_t a_t o_t) sz)) 0 0 (va_A (w_X12_four cA h_t a_t o_t) sz) := by
  refine z_start (cc := cX12_empties) (maxL := 3) (ret := (some .int)) (lv0 := [(0, .ref h_t)]) (Qc := fun sz => va_Qi (fun (r : Int32) (_ : Unit) => r = rv) (PostW D cA sz (w_X12_four cA h_t a_t o_t) (w_X12_four cA h_t a_t o_t')) (va_A (w_X12_four cA h_t a_t o_t) sz)) (free := fun sz => va_A (w_X12_four cA h_t a_t o_t) sz) (by decide +kernel) rfl rfl (Nat.le_of_ble_eq_true rfl) ?_
  intro p e R s m args below meth c A Q hR hA hQ X hr hin
  unfold f_X12_empties at hF
  refine z_aload_n X dX12_empties_0 rfl 0 rfl ?_
  refine z_get (v := .ref (a_t 0)) X k_X12_empties_7 0 rfl rfl dX12_empties_1 ?_
  refine z_iconst (v := (3 : Int32)) X dX12_empties_4 (by decide) ?_
  obtain ⟨g1, hF⟩ := gi_e hF
  refine z_iald X 1 rfl g1 dX12_empties_5 ?_
  obtain ⟨r2, hc3, hF⟩ := zb1_e hF
  refine z_Si (As := [.int (o_t 0 (Int32.toNatClampNeg (3 : Int32)))]) (rest := []) (wc := ([] : va_W)) (wc' := ([] : va_W)) (ws' := (w_X12_four cA h_t a_t o_t)) (rv := r2) X (va_cwS 1 X.2.2.2.2.1 gX12_empties_X12_ones rfl rfl rfl (by decide +kernel) (by rw [hR]; exact ⟨Nat.le_of_ble_eq_true rfl, Nat.le_of_ble_eq_true rfl⟩)) (fun sz => c_X12_ones l D cA g sz (o_t 0 (Int32.toNatClampNeg (3 : Int32))) r2 hc3) [] [0, 1, 2, 3, 4, 5, 6, 7, 8, 9, 10, 11, 12, 13, 14, 15, 16, 17, 18, 19, 20, 21] rfl (by decide) rfl (by decide) rfl rfl rfl (Nat.le_of_ble_eq_true rfl) dX12_empties_6 ⟨Nat.zero_le _, Nat.zero_le _⟩ ?_
  refine z_istore_n (lv' := [(1, .int r2), (0, .ref h_t)]) X dX12_empties_9 rfl (by decide) rfl ?_
  refine z_aload_n X dX12_empties_10 rfl 1 rfl ?_
  refine z_get (v := .ref (a_t 0)) X k_X12_empties_7 0 rfl rfl dX12_empties_11 ?_
  refine z_iconst (v := (3 : Int32)) X dX12_empties_14 (by decide) ?_
  refine z_iconst (v := (0 : Int32)) X dX12_empties_15 (by decide) ?_
  obtain ⟨g4, hF⟩ := gi_e hF
  obtain ⟨o5, eo5, hF⟩ := nx_e hF
  refine z_iast (ws' := (w_X12_four cA h_t a_t o5)) X 1 rfl g4 (by rw [eo5]; rfl) dX12_empties_16 ?_
  refine z_aload_n X dX12_empties_17 rfl 1 rfl ?_
  refine z_get (v := .ref (a_t 0)) X k_X12_empties_7 0 rfl rfl dX12_empties_18 ?_
  refine z_bipush (v := (7 : Int32)) X dX12_empties_21 (by decide) ?_
  refine z_iconst (v := (0 : Int32)) X dX12_empties_23 (by decide) ?_
  obtain ⟨g6, hF⟩ := gi_e hF
  obtain ⟨o7, eo7, hF⟩ := nx_e hF
  refine z_iast (ws' := (w_X12_four cA h_t a_t o7)) X 1 rfl g6 (by rw [eo7]; rfl) dX12_empties_24 ?_
  refine z_iconst (v := (0 : Int32)) X dX12_empties_25 (by decide) ?_
  refine z_istore_n (lv' := [(2, .int (0 : Int32)), (1, .int r2), (0, .ref h_t)]) X dX12_empties_26 rfl (by decide) rfl ?_
  obtain ⟨o20, hL, hF⟩ := zb1_e hF
  have L21_x : ∀ (o20' : Ob), o20' = o20 → ZW p l e R s m args below meth c D A 3 0 0 Q (w_X12_four cA h_t a_t o20') [(1, .int r2)] 69 [] := by
    intro o20' hz
    cases hz
    refine z_iload_n X dX12_empties_69 rfl 0 rfl ?_
    cases hF
    exact z_iret X hA hQ hr rfl dX12_empties_70 (Nat.le_refl _) (Nat.le_refl _)
  obtain ⟨B31, hBB31, hL⟩ := zl2_b hL
  have L21 : ∀ (n : Nat) (o18 : Ob) (k19 : Int32), zl2 B31 n o18 k19 = some o20 → ZW p l e R s m args below meth c D A 3 0 0 Q (w_X12_four cA h_t a_t o18) [(0, .ref h_t), (1, .int r2), (2, .int k19)] 27 [] := by
    intro n
    induction n with
    | zero => intro o18 k19 hL; cases hL
    | succ n ih =>
      intro o18 k19 hL
      obtain ⟨zz22, hF, hL⟩ := zl2_e hL
      rw [hBB31] at hF
      refine z_iload_n X dX12_empties_27 rfl 2 rfl ?_
      refine z_bipush (v := (8 : Int32)) X dX12_empties_28 (by decide) ?_
      have hF := if_e hF
      refine z_icmp_ge (tgt := 69) X dX12_empties_30 (by decide) (fun c30 => ?_) (fun c30 => ?_)
      · have hF := hF.1 c30
        cases hF
        have hL := Option.some.inj hL
        refine z_lv (lv' := [(1, .int r2)]) [1] rfl ?_
        exact L21_x o18 hL
      · have hF := hF.2 c30
        refine z_aload_n X dX12_empties_33 rfl 0 rfl ?_
        refine z_get (v := .ref (a_t 0)) X k_X12_empties_7 0 rfl rfl dX12_empties_34 ?_
        refine z_bipush (v := (32 : Int32)) X dX12_empties_37 (by decide) ?_
        refine z_iload_n X dX12_empties_39 rfl 2 rfl ?_
        refine z_iadd X dX12_empties_40 ?_
        refine z_iconst (v := (0 : Int32)) X dX12_empties_41 (by decide) ?_
        obtain ⟨g23, hF⟩ := gi_e hF
        obtain ⟨o24, eo24, hF⟩ := nx_e hF
        refine z_iast (ws' := (w_X12_four cA h_t a_t o24)) X 1 rfl g23 (by rw [eo24]; rfl) dX12_empties_42 ?_
        refine z_aload_n X dX12_empties_43 rfl 0 rfl ?_
        refine z_get (v := .ref (a_t 0)) X k_X12_empties_7 0 rfl rfl dX12_empties_44 ?_
        refine z_bipush (v := (40 : Int32)) X dX12_empties_47 (by decide) ?_
        refine z_iload_n X dX12_empties_49 rfl 2 rfl ?_
        refine z_iadd X dX12_empties_50 ?_
        refine z_iconst (v := (0 : Int32)) X dX12_empties_51 (by decide) ?_
        obtain ⟨g25, hF⟩ := gi_e hF
        obtain ⟨o26, eo26, hF⟩ := nx_e hF
        refine z_iast (ws' := (w_X12_four cA h_t a_t o26)) X 1 rfl g25 (by rw [eo26]; rfl) dX12_empties_52 ?_
        refine z_aload_n X dX12_empties_53 rfl 0 rfl ?_
        refine z_get (v := .ref (a_t 0)) X k_X12_empties_7 0 rfl rfl dX12_empties_54 ?_
        refine z_bipush (v := (48 : Int32)) X dX12_empties_57 (by decide) ?_
        refine z_iload_n X dX12_empties_59 rfl 2 rfl ?_
        refine z_iadd X dX12_empties_60 ?_
        refine z_iconst (v := (0 : Int32)) X dX12_empties_61 (by decide) ?_
        obtain ⟨g27, hF⟩ := gi_e hF
        obtain ⟨o28, eo28, hF⟩ := nx_e hF
        refine z_iast (ws' := (w_X12_four cA h_t a_t o28)) X 1 rfl g27 (by rw [eo28]; rfl) dX12_empties_62 ?_
        obtain ⟨x29, ex29, hF⟩ := nx_e hF
        refine z_iinc (v := x29) (lv' := [(2, .int x29), (0, .ref h_t), (1, .int r2)]) (j := 2) X dX12_empties_63 rfl (by rw [ex29]; rfl) (by decide) rfl ?_
        refine z_goto (tgt := 27) X dX12_empties_66 (by decide) ?_
        cases hF
        refine z_lv (lv' := [(0, .ref h_t), (1, .int r2), (2, .int x29)]) [1, 2, 0] rfl ?_
        exact ih o28 x29 hL
  refine z_lv (lv' := [(0, .ref h_t), (1, .int r2), (2, .int (0 : Int32))]) [2, 1, 0] rfl ?_
  exact L21 FU o7 (0 : Int32) hL
set_option maxRecDepth 20000 in
theorem h_X12_room_X12 : ∀ w ∈ wsX120, w ∈ wsX12_room := by decide +kernel
set_option maxRecDepth 20000 in
theorem k_X12_room_7 : ZF wsX12_room RX12 7 12 0 RX12 TX12 47 := ⟨rfl, by decide, h_X12_room_X12, by decide +kernel⟩
set_option maxHeartbeats 8000000 in
set_option maxRecDepth 100000 in
theorem c_X12_room (l : Launch) (D : va_G) (cA : Nat → ClassId) (g : Nat → Nat) (sz : Nat) (h_t : Nat) (a_t : Nat → Nat) (o_t : Ob) (v1 : Int32) (o_t' : Ob) (rv : Int32) (hF : f_X12_room o_t v1 = some (o_t', rv)) : Met l yX12_room wsX12_room ({ frames := 2, cells := 0, slots := 0, locals := 45 }) (va_Pc [.ref h_t, .int v1] (PreW D cA g sz (w_X12_four cA h_t a_t o_t))) (va_Qi (fun (r : Int32) (_ : Unit) => r = rv) (PostW D cA sz (w_X12_four cA h_t a_t o_t) (w_X12_four cA h_t a_t o_t')) (va_A (w_X12_four cA h_t a_t o_t) sz)) 0 0 (va_A (w_X12_four cA h_t a_t o_t) sz) := by
  refine z_start (cc := cX12_room) (maxL := 2) (ret := (some .int)) (lv0 := [(0, .ref h_t), (1, .int v1)]) (Qc := fun sz => va_Qi (fun (r : Int32) (_ : Unit) => r = rv) (PostW D cA sz (w_X12_four cA h_t a_t o_t) (w_X12_four cA h_t a_t o_t')) (va_A (w_X12_four cA h_t a_t o_t) sz)) (free := fun sz => va_A (w_X12_four cA h_t a_t o_t) sz) (by decide +kernel) rfl rfl (Nat.le_of_ble_eq_true rfl) ?_
  intro p e R s m args below meth c A Q hR hA hQ X hr hin
  unfold f_X12_room at hF
  refine z_iload_n X dX12_room_0 rfl 1 rfl ?_
  refine z_iconst (v := (1 : Int32)) X dX12_room_1 (by decide) ?_
  refine z_bipush (v := (20 : Int32)) X dX12_room_2 (by decide) ?_
  obtain ⟨r1, hc2, hF⟩ := zb1_e hF
  refine z_Si (As := [.int v1, .int (1 : Int32), .int (20 : Int32)]) (rest := []) (wc := ([] : va_W)) (wc' := ([] : va_W)) (ws' := (w_X12_four cA h_t a_t o_t)) (rv := r1) X (va_cwS 3 X.2.2.2.2.1 gX12_room_X12_isIn rfl rfl rfl (by decide +kernel) (by rw [hR]; exact ⟨Nat.le_of_ble_eq_true rfl, Nat.le_of_ble_eq_true rfl⟩)) (fun sz => c_X12_isIn l D cA g sz v1 (1 : Int32) (20 : Int32) r1 hc2) [] [0, 1, 2, 3, 4, 5, 6, 7, 8, 9, 10, 11, 12, 13, 14, 15, 16, 17, 18, 19, 20, 21] rfl (by decide) rfl (by decide) rfl rfl rfl (Nat.le_of_ble_eq_true rfl) dX12_room_4 ⟨Nat.zero_le _, Nat.zero_le _⟩ ?_
  have hF := if_e hF
  refine z_if_eq (tgt := 20) X dX12_room_7 (by decide) (fun c12 => ?_) (fun c12 => ?_)
  · have hF := hF.1 c12
    refine z_iconst (v := (-1 : Int32)) X dX12_room_20 (by decide) ?_
    cases hF
    exact z_iret X hA hQ hr rfl dX12_room_21 (Nat.le_refl _) (Nat.le_refl _)
  · have hF := hF.2 c12
    refine z_iload_n X dX12_room_10 rfl 1 rfl ?_
    refine z_aload_n X dX12_room_11 rfl 0 rfl ?_
    refine z_get (v := .ref (a_t 0)) X k_X12_room_7 0 rfl rfl dX12_room_12 ?_
    refine z_iconst (v := (0 : Int32)) X dX12_room_15 (by decide) ?_
    obtain ⟨g3, hF⟩ := gi_e hF
    refine z_iald X 1 rfl g3 dX12_room_16 ?_
    have hF := if_e hF
    refine z_icmp_ne (tgt := 22) X dX12_room_17 (by decide) (fun c11 => ?_) (fun c11 => ?_)
    · have hF := hF.2 c11
      refine z_aload_n X dX12_room_22 rfl 0 rfl ?_
      obtain ⟨o4, hc5, hF⟩ := zb1_e hF
      refine z_Vv (As := []) (rest := []) (wc := (w_X12_four cA h_t a_t o_t)) (wc' := (w_X12_four cA h_t a_t o4)) (ws' := (w_X12_four cA h_t a_t o4)) X (cwV 0 X.2.2.2.2.1 gX12_room_X12_keeps rfl rfl rfl (by decide +kernel) (by rw [hR]; exact ⟨Nat.le_of_ble_eq_true rfl, Nat.le_of_ble_eq_true rfl⟩)) (fun sz => c_X12_keeps l D cA g sz h_t a_t o_t o4 hc5) [0, 1, 2, 3, 4, 5, 6, 7, 8, 9, 10, 11, 12, 13, 14, 15, 16, 17, 18, 19, 20, 21] [1000, 1001, 1002, 1003, 1004, 1005, 1006, 1007, 1008, 1009, 1010, 1011, 1012, 1013, 1014, 1015, 1016, 1017, 1018, 1019, 1020, 1021] rfl (by decide) rfl (by decide) rfl rfl rfl rfl rfl rfl (Nat.le_of_ble_eq_true rfl) dX12_room_23 ⟨Nat.zero_le _, Nat.zero_le _⟩ ?_
      refine z_aload_n X dX12_room_26 rfl 0 rfl ?_
      refine z_get (v := .ref (a_t 0)) X k_X12_room_7 0 rfl rfl dX12_room_27 ?_
      refine z_iconst (v := (0 : Int32)) X dX12_room_30 (by decide) ?_
      refine z_iload_n X dX12_room_31 rfl 1 rfl ?_
      obtain ⟨g6, hF⟩ := gi_e hF
      obtain ⟨o7, eo7, hF⟩ := nx_e hF
      refine z_iast (ws' := (w_X12_four cA h_t a_t o7)) X 1 rfl g6 (by rw [eo7]; rfl) dX12_room_32 ?_
      refine z_aload_n X dX12_room_33 rfl 0 rfl ?_
      obtain ⟨o8, r9, hc10, hF⟩ := zb2_e hF
      refine z_Vi (As := []) (rest := []) (wc := (w_X12_four cA h_t a_t o7)) (wc' := (w_X12_four cA h_t a_t o8)) (ws' := (w_X12_four cA h_t a_t o8)) (rv := r9) X (cwV 0 X.2.2.2.2.1 gX12_room_X12_empties rfl rfl rfl (by decide +kernel) (by rw [hR]; exact ⟨Nat.le_of_ble_eq_true rfl, Nat.le_of_ble_eq_true rfl⟩)) (fun sz => c_X12_empties l D cA g sz h_t a_t o7 o8 r9 hc10) [0, 1, 2, 3, 4, 5, 6, 7, 8, 9, 10, 11, 12, 13, 14, 15, 16, 17, 18, 19, 20, 21] [1000, 1001, 1002, 1003, 1004, 1005, 1006, 1007, 1008, 1009, 1010, 1011, 1012, 1013, 1014, 1015, 1016, 1017, 1018, 1019, 1020, 1021] rfl (by decide) rfl (by decide) rfl rfl rfl rfl rfl rfl (Nat.le_of_ble_eq_true rfl) dX12_room_34 ⟨Nat.zero_le _, Nat.zero_le _⟩ ?_
      cases hF
      exact z_iret X hA hQ hr rfl dX12_room_37 (Nat.le_refl _) (Nat.le_refl _)
    · have hF := hF.1 c11
      refine z_iconst (v := (-1 : Int32)) X dX12_room_20 (by decide) ?_
      cases hF
      exact z_iret X hA hQ hr rfl dX12_room_21 (Nat.le_refl _) (Nat.le_refl _)
set_option maxRecDepth 20000 in
theorem h_X12_rule_X12 : ∀ w ∈ wsX120, w ∈ wsX12_rule := by decide +kernel
set_option maxRecDepth 20000 in
theorem k_X12_rule_7 : ZF wsX12_rule RX12 7 12 0 RX12 TX12 47 := ⟨rfl, by decide, h_X12_rule_X12, by decide +kernel⟩
set_option maxHeartbeats 8000000 in
set_option maxRecDepth 100000 in
theorem c_X12_rule (l : Launch) (D : va_G) (cA : Nat → ClassId) (g : Nat → Nat) (sz : Nat) (h_t : Nat) (a_t : Nat → Nat) (o_t : Ob) (v1 : Int32) (o_t' : Ob) (rv : Int32) (hF : f_X12_rule o_t v1 = some (o_t', rv)) : Met l yX12_rule wsX12_rule ({ frames := 2, cells := 0, slots := 0, locals := 45 }) (va_Pc [.ref h_t, .int v1] (PreW D cA g sz (w_X12_four cA h_t a_t o_t))) (va_Qi (fun (r : Int32) (_ : Unit) => r = rv) (PostW D cA sz (w_X12_four cA h_t a_t o_t) (w_X12_four cA h_t a_t o_t')) (va_A (w_X12_four cA h_t a_t o_t) sz)) 0 0 (va_A (w_X12_four cA h_t a_t o_t) sz) := by
  refine z_start (cc := cX12_rule) (maxL := 2) (ret := (some .int)) (lv0 := [(0, .ref h_t), (1, .int v1)]) (Qc := fun sz => va_Qi (fun (r : Int32) (_ : Unit) => r = rv) (PostW D cA sz (w_X12_four cA h_t a_t o_t) (w_X12_four cA h_t a_t o_t')) (va_A (w_X12_four cA h_t a_t o_t) sz)) (free := fun sz => va_A (w_X12_four cA h_t a_t o_t) sz) (by decide +kernel) rfl rfl (Nat.le_of_ble_eq_true rfl) ?_
  intro p e R s m args below meth c A Q hR hA hQ X hr hin
  unfold f_X12_rule at hF
  refine z_iload_n X dX12_rule_0 rfl 1 rfl ?_
  refine z_iconst (v := (0 : Int32)) X dX12_rule_1 (by decide) ?_
  refine z_iconst (v := (2 : Int32)) X dX12_rule_2 (by decide) ?_
  obtain ⟨r1, hc2, hF⟩ := zb1_e hF
  refine z_Si (As := [.int v1, .int (0 : Int32), .int (2 : Int32)]) (rest := []) (wc := ([] : va_W)) (wc' := ([] : va_W)) (ws' := (w_X12_four cA h_t a_t o_t)) (rv := r1) X (va_cwS 3 X.2.2.2.2.1 gX12_rule_X12_isIn rfl rfl rfl (by decide +kernel) (by rw [hR]; exact ⟨Nat.le_of_ble_eq_true rfl, Nat.le_of_ble_eq_true rfl⟩)) (fun sz => c_X12_isIn l D cA g sz v1 (0 : Int32) (2 : Int32) r1 hc2) [] [0, 1, 2, 3, 4, 5, 6, 7, 8, 9, 10, 11, 12, 13, 14, 15, 16, 17, 18, 19, 20, 21] rfl (by decide) rfl (by decide) rfl rfl rfl (Nat.le_of_ble_eq_true rfl) dX12_rule_3 ⟨Nat.zero_le _, Nat.zero_le _⟩ ?_
  have hF := if_e hF
  refine z_if_eq (tgt := 19) X dX12_rule_6 (by decide) (fun c12 => ?_) (fun c12 => ?_)
  · have hF := hF.1 c12
    refine z_iconst (v := (-1 : Int32)) X dX12_rule_19 (by decide) ?_
    cases hF
    exact z_iret X hA hQ hr rfl dX12_rule_20 (Nat.le_refl _) (Nat.le_refl _)
  · have hF := hF.2 c12
    refine z_iload_n X dX12_rule_9 rfl 1 rfl ?_
    refine z_aload_n X dX12_rule_10 rfl 0 rfl ?_
    refine z_get (v := .ref (a_t 0)) X k_X12_rule_7 0 rfl rfl dX12_rule_11 ?_
    refine z_iconst (v := (1 : Int32)) X dX12_rule_14 (by decide) ?_
    obtain ⟨g3, hF⟩ := gi_e hF
    refine z_iald X 1 rfl g3 dX12_rule_15 ?_
    have hF := if_e hF
    refine z_icmp_ne (tgt := 21) X dX12_rule_16 (by decide) (fun c11 => ?_) (fun c11 => ?_)
    · have hF := hF.2 c11
      refine z_aload_n X dX12_rule_21 rfl 0 rfl ?_
      obtain ⟨o4, hc5, hF⟩ := zb1_e hF
      refine z_Vv (As := []) (rest := []) (wc := (w_X12_four cA h_t a_t o_t)) (wc' := (w_X12_four cA h_t a_t o4)) (ws' := (w_X12_four cA h_t a_t o4)) X (cwV 0 X.2.2.2.2.1 gX12_rule_X12_keeps rfl rfl rfl (by decide +kernel) (by rw [hR]; exact ⟨Nat.le_of_ble_eq_true rfl, Nat.le_of_ble_eq_true rfl⟩)) (fun sz => c_X12_keeps l D cA g sz h_t a_t o_t o4 hc5) [0, 1, 2, 3, 4, 5, 6, 7, 8, 9, 10, 11, 12, 13, 14, 15, 16, 17, 18, 19, 20, 21] [1000, 1001, 1002, 1003, 1004, 1005, 1006, 1007, 1008, 1009, 1010, 1011, 1012, 1013, 1014, 1015, 1016, 1017, 1018, 1019, 1020, 1021] rfl (by decide) rfl (by decide) rfl rfl rfl rfl rfl rfl (Nat.le_of_ble_eq_true rfl) dX12_rule_22 ⟨Nat.zero_le _, Nat.zero_le _⟩ ?_
      refine z_aload_n X dX12_rule_25 rfl 0 rfl ?_
      refine z_get (v := .ref (a_t 0)) X k_X12_rule_7 0 rfl rfl dX12_rule_26 ?_
      refine z_iconst (v := (1 : Int32)) X dX12_rule_29 (by decide) ?_
      refine z_iload_n X dX12_rule_30 rfl 1 rfl ?_
      obtain ⟨g6, hF⟩ := gi_e hF
      obtain ⟨o7, eo7, hF⟩ := nx_e hF
      refine z_iast (ws' := (w_X12_four cA h_t a_t o7)) X 1 rfl g6 (by rw [eo7]; rfl) dX12_rule_31 ?_
      refine z_aload_n X dX12_rule_32 rfl 0 rfl ?_
      obtain ⟨o8, r9, hc10, hF⟩ := zb2_e hF
      refine z_Vi (As := []) (rest := []) (wc := (w_X12_four cA h_t a_t o7)) (wc' := (w_X12_four cA h_t a_t o8)) (ws' := (w_X12_four cA h_t a_t o8)) (rv := r9) X (cwV 0 X.2.2.2.2.1 gX12_rule_X12_empties rfl rfl rfl (by decide +kernel) (by rw [hR]; exact ⟨Nat.le_of_ble_eq_true rfl, Nat.le_of_ble_eq_true rfl⟩)) (fun sz => c_X12_empties l D cA g sz h_t a_t o7 o8 r9 hc10) [0, 1, 2, 3, 4, 5, 6, 7, 8, 9, 10, 11, 12, 13, 14, 15, 16, 17, 18, 19, 20, 21] [1000, 1001, 1002, 1003, 1004, 1005, 1006, 1007, 1008, 1009, 1010, 1011, 1012, 1013, 1014, 1015, 1016, 1017, 1018, 1019, 1020, 1021] rfl (by decide) rfl (by decide) rfl rfl rfl rfl rfl rfl (Nat.le_of_ble_eq_true rfl) dX12_rule_33 ⟨Nat.zero_le _, Nat.zero_le _⟩ ?_
      cases hF
      exact z_iret X hA hQ hr rfl dX12_rule_36 (Nat.le_refl _) (Nat.le_refl _)
    · have hF := hF.1 c11
      refine z_iconst (v := (-1 : Int32)) X dX12_rule_19 (by decide) ?_
      cases hF
      exact z_iret X hA hQ hr rfl dX12_rule_20 (Nat.le_refl _) (Nat.le_refl _)
set_option maxRecDepth 20000 in
theorem h_X12_carry_X12 : ∀ w ∈ wsX120, w ∈ wsX12_carry := by decide +kernel
set_option maxRecDepth 20000 in
theorem k_X12_carry_7 : ZF wsX12_carry RX12 7 12 0 RX12 TX12 47 := ⟨rfl, by decide, h_X12_carry_X12, by decide +kernel⟩
set_option maxHeartbeats 8000000 in
set_option maxRecDepth 100000 in
theorem c_X12_carry (l : Launch) (D : va_G) (cA : Nat → ClassId) (g : Nat → Nat) (sz : Nat) (h_t : Nat) (a_t : Nat → Nat) (o_t : Ob) (v1 : Int32) (v2 : Int32) (o_t' : Ob) (rv : Int32) (hF : f_X12_carry o_t v1 v2 = some (o_t', rv)) : Met l yX12_carry wsX12_carry ({ frames := 3, cells := 0, slots := 0, locals := 68 }) (va_Pc [.ref h_t, .int v1, .int v2] (PreW D cA g sz (w_X12_four cA h_t a_t o_t))) (va_Qi (fun (r : Int32) (_ : Unit) => r = rv) (PostW D cA sz (w_X12_four cA h_t a_t o_t) (w_X12_four cA h_t a_t o_t')) (va_A (w_X12_four cA h_t a_t o_t) sz)) 0 0 (va_A (w_X12_four cA h_t a_t o_t) sz) := by
  refine z_start (cc := cX12_carry) (maxL := 4) (ret := (some .int)) (lv0 := [(0, .ref h_t), (1, .int v1), (2, .int v2)]) (Qc := fun sz => va_Qi (fun (r : Int32) (_ : Unit) => r = rv) (PostW D cA sz (w_X12_four cA h_t a_t o_t) (w_X12_four cA h_t a_t o_t')) (va_A (w_X12_four cA h_t a_t o_t) sz)) (free := fun sz => va_A (w_X12_four cA h_t a_t o_t) sz) (by decide +kernel) rfl rfl (Nat.le_of_ble_eq_true rfl) ?_
  intro p e R s m args below meth c A Q hR hA hQ X hr hin
  unfold f_X12_carry at hF
  refine z_aload_n X dX12_carry_0 rfl 0 rfl ?_
  refine z_iload_n X dX12_carry_1 rfl 1 rfl ?_
  obtain ⟨r1, hc2, hF⟩ := zb1_e hF
  refine z_Vi (As := [.int v1]) (rest := []) (wc := (w_X12_four cA h_t a_t o_t)) (wc' := (w_X12_four cA h_t a_t o_t)) (ws' := (w_X12_four cA h_t a_t o_t)) (rv := r1) X (cwV 1 X.2.2.2.2.1 gX12_carry_X12_isItem rfl rfl rfl (by decide +kernel) (by rw [hR]; exact ⟨Nat.le_of_ble_eq_true rfl, Nat.le_of_ble_eq_true rfl⟩)) (fun sz => c_X12_isItem l D cA g sz h_t a_t o_t v1 r1 hc2) [0, 1, 2, 3, 4, 5, 6, 7, 8, 9, 10, 11, 12, 13, 14, 15, 16, 17, 18, 19, 20, 21] [1000, 1001, 1002, 1003, 1004, 1005, 1006, 1007, 1008, 1009, 1010, 1011, 1012, 1013, 1014, 1015, 1016, 1017, 1018, 1019, 1020, 1021] rfl (by decide) rfl (by decide) rfl rfl rfl rfl rfl rfl (Nat.le_of_ble_eq_true rfl) dX12_carry_2 ⟨Nat.zero_le _, Nat.zero_le _⟩ ?_
  have hF := if_e hF
  refine z_if_eq (tgt := 17) X dX12_carry_5 (by decide) (fun c41 => ?_) (fun c41 => ?_)
  · have hF := hF.1 c41
    refine z_bipush (v := (-2 : Int32)) X dX12_carry_17 (by decide) ?_
    cases hF
    exact z_iret X hA hQ hr rfl dX12_carry_19 (Nat.le_refl _) (Nat.le_refl _)
  · have hF := hF.2 c41
    refine z_iload_n X dX12_carry_8 rfl 2 rfl ?_
    refine z_iconst (v := (0 : Int32)) X dX12_carry_9 (by decide) ?_
    refine z_iconst (v := (1 : Int32)) X dX12_carry_10 (by decide) ?_
    obtain ⟨r3, hc4, hF⟩ := zb1_e hF
    refine z_Si (As := [.int v2, .int (0 : Int32), .int (1 : Int32)]) (rest := []) (wc := ([] : va_W)) (wc' := ([] : va_W)) (ws' := (w_X12_four cA h_t a_t o_t)) (rv := r3) X (va_cwS 3 X.2.2.2.2.1 gX12_carry_X12_isIn rfl rfl rfl (by decide +kernel) (by rw [hR]; exact ⟨Nat.le_of_ble_eq_true rfl, Nat.le_of_ble_eq_true rfl⟩)) (fun sz => c_X12_isIn l D cA g sz v2 (0 : Int32) (1 : Int32) r3 hc4) [] [0, 1, 2, 3, 4, 5, 6, 7, 8, 9, 10, 11, 12, 13, 14, 15, 16, 17, 18, 19, 20, 21] rfl (by decide) rfl (by decide) rfl rfl rfl (Nat.le_of_ble_eq_true rfl) dX12_carry_11 ⟨Nat.zero_le _, Nat.zero_le _⟩ ?_
    have hF := if_e hF
    refine z_if_ne (tgt := 20) X dX12_carry_14 (by decide) (fun c40 => ?_) (fun c40 => ?_)
    · have hF := hF.2 c40
      refine z_aload_n X dX12_carry_20 rfl 0 rfl ?_
      obtain ⟨o5, hc6, hF⟩ := zb1_e hF
      refine z_Vv (As := []) (rest := []) (wc := (w_X12_four cA h_t a_t o_t)) (wc' := (w_X12_four cA h_t a_t o5)) (ws' := (w_X12_four cA h_t a_t o5)) X (cwV 0 X.2.2.2.2.1 gX12_carry_X12_call rfl rfl rfl (by decide +kernel) (by rw [hR]; exact ⟨Nat.le_of_ble_eq_true rfl, Nat.le_of_ble_eq_true rfl⟩)) (fun sz => c_X12_call l D cA g sz h_t a_t o_t o5 hc6) [0, 1, 2, 3, 4, 5, 6, 7, 8, 9, 10, 11, 12, 13, 14, 15, 16, 17, 18, 19, 20, 21] [1000, 1001, 1002, 1003, 1004, 1005, 1006, 1007, 1008, 1009, 1010, 1011, 1012, 1013, 1014, 1015, 1016, 1017, 1018, 1019, 1020, 1021] rfl (by decide) rfl (by decide) rfl rfl rfl rfl rfl rfl (Nat.le_of_ble_eq_true rfl) dX12_carry_21 ⟨Nat.zero_le _, Nat.zero_le _⟩ ?_
      refine z_aload_n X dX12_carry_24 rfl 0 rfl ?_
      refine z_get (v := .ref (a_t 0)) X k_X12_carry_7 0 rfl rfl dX12_carry_25 ?_
      refine z_iconst (v := (3 : Int32)) X dX12_carry_28 (by decide) ?_
      obtain ⟨g7, hF⟩ := gi_e hF
      refine z_iald X 1 rfl g7 dX12_carry_29 ?_
      refine z_iload_n X dX12_carry_30 rfl 1 rfl ?_
      obtain ⟨r8, hc9, hF⟩ := zb1_e hF
      refine z_Si (As := [.int (o5 0 (Int32.toNatClampNeg (3 : Int32))), .int v1]) (rest := []) (wc := ([] : va_W)) (wc' := ([] : va_W)) (ws' := (w_X12_four cA h_t a_t o5)) (rv := r8) X (va_cwS 2 X.2.2.2.2.1 gX12_carry_X12_bitOf rfl rfl rfl (by decide +kernel) (by rw [hR]; exact ⟨Nat.le_of_ble_eq_true rfl, Nat.le_of_ble_eq_true rfl⟩)) (fun sz => c_X12_bitOf l D cA g sz (o5 0 (Int32.toNatClampNeg (3 : Int32))) v1 r8 hc9) [] [0, 1, 2, 3, 4, 5, 6, 7, 8, 9, 10, 11, 12, 13, 14, 15, 16, 17, 18, 19, 20, 21] rfl (by decide) rfl (by decide) rfl rfl rfl (Nat.le_of_ble_eq_true rfl) dX12_carry_31 ⟨Nat.zero_le _, Nat.zero_le _⟩ ?_
      refine z_iload_n X dX12_carry_34 rfl 2 rfl ?_
      refine z_iconst (v := (1 : Int32)) X dX12_carry_35 (by decide) ?_
      obtain ⟨K12, eK12, hF⟩ := nx_e hF
      have K12_l : ∀ (j11 : Int32), K12 j11 = some (o_t', rv) → ZW p l e R s m args below meth c D A 4 0 0 Q (w_X12_four cA h_t a_t o5) [(0, .ref h_t), (1, .int v1), (2, .int v2)] 44 [.int j11, .int r8] := by
        intro j11 hF
        rw [eK12] at hF
        obtain ⟨K21, eK21, hF⟩ := nx_e hF
        have K21_l : ∀ (j20 : Int32), K21 j20 = some (o_t', rv) → ZW p l e R s m args below meth c D A 4 0 0 Q (w_X12_four cA h_t a_t o5) [(0, .ref h_t), (1, .int v1), (2, .int v2)] 84 [.int j20] := by
          intro j20 hF
          rw [eK21] at hF
          refine z_istore_n (lv' := [(3, .int j20), (0, .ref h_t), (1, .int v1), (2, .int v2)]) X dX12_carry_84 rfl (by decide) rfl ?_
          refine z_iload_n X dX12_carry_85 rfl 0 rfl ?_
          have hF := if_e hF
          refine z_if_le (tgt := 95) X dX12_carry_86 (by decide) (fun c31 => ?_) (fun c31 => ?_)
          · have hF := hF.1 c31
            refine z_aload_n X dX12_carry_95 rfl 1 rfl ?_
            obtain ⟨o22, hc23, hF⟩ := zb1_e hF
            refine z_Vv (As := []) (rest := []) (wc := (w_X12_four cA h_t a_t o5)) (wc' := (w_X12_four cA h_t a_t o22)) (ws' := (w_X12_four cA h_t a_t o22)) X (cwV 0 X.2.2.2.2.1 gX12_carry_X12_keeps rfl rfl rfl (by decide +kernel) (by rw [hR]; exact ⟨Nat.le_of_ble_eq_true rfl, Nat.le_of_ble_eq_true rfl⟩)) (fun sz => c_X12_keeps l D cA g sz h_t a_t o5 o22 hc23) [0, 1, 2, 3, 4, 5, 6, 7, 8, 9, 10, 11, 12, 13, 14, 15, 16, 17, 18, 19, 20, 21] [1000, 1001, 1002, 1003, 1004, 1005, 1006, 1007, 1008, 1009, 1010, 1011, 1012, 1013, 1014, 1015, 1016, 1017, 1018, 1019, 1020, 1021] rfl (by decide) rfl (by decide) rfl rfl rfl rfl rfl rfl (Nat.le_of_ble_eq_true rfl) dX12_carry_96 ⟨Nat.zero_le _, Nat.zero_le _⟩ ?_
            refine z_iload_n X dX12_carry_99 rfl 3 rfl ?_
            refine z_iconst (v := (1 : Int32)) X dX12_carry_100 (by decide) ?_
            have hF := if_e hF
            refine z_icmp_ne (tgt := 112) X dX12_carry_101 (by decide) (fun c28 => ?_) (fun c28 => ?_)
            · have hF := hF.2 c28
              refine z_aload_n X dX12_carry_112 rfl 1 rfl ?_
              refine z_iload_n X dX12_carry_113 rfl 2 rfl ?_
              obtain ⟨o24, hc25, hF⟩ := zb1_e hF
              refine z_Vv (As := [.int v1]) (rest := []) (wc := (w_X12_four cA h_t a_t o22)) (wc' := (w_X12_four cA h_t a_t o24)) (ws' := (w_X12_four cA h_t a_t o24)) X (cwV 1 X.2.2.2.2.1 gX12_carry_X12_down rfl rfl rfl (by decide +kernel) (by rw [hR]; exact ⟨Nat.le_of_ble_eq_true rfl, Nat.le_of_ble_eq_true rfl⟩)) (fun sz => c_X12_down l D cA g sz h_t a_t o22 v1 o24 hc25) [0, 1, 2, 3, 4, 5, 6, 7, 8, 9, 10, 11, 12, 13, 14, 15, 16, 17, 18, 19, 20, 21] [1000, 1001, 1002, 1003, 1004, 1005, 1006, 1007, 1008, 1009, 1010, 1011, 1012, 1013, 1014, 1015, 1016, 1017, 1018, 1019, 1020, 1021] rfl (by decide) rfl (by decide) rfl rfl rfl rfl rfl rfl (Nat.le_of_ble_eq_true rfl) dX12_carry_114 ⟨Nat.zero_le _, Nat.zero_le _⟩ ?_
              refine z_iconst (v := (0 : Int32)) X dX12_carry_117 (by decide) ?_
              cases hF
              exact z_iret X hA hQ hr rfl dX12_carry_118 (Nat.le_refl _) (Nat.le_refl _)
            · have hF := hF.1 c28
              refine z_aload_n X dX12_carry_104 rfl 1 rfl ?_
              refine z_iload_n X dX12_carry_105 rfl 2 rfl ?_
              obtain ⟨o26, hc27, hF⟩ := zb1_e hF
              refine z_Vv (As := [.int v1]) (rest := []) (wc := (w_X12_four cA h_t a_t o22)) (wc' := (w_X12_four cA h_t a_t o26)) (ws' := (w_X12_four cA h_t a_t o26)) X (cwV 1 X.2.2.2.2.1 gX12_carry_X12_up rfl rfl rfl (by decide +kernel) (by rw [hR]; exact ⟨Nat.le_of_ble_eq_true rfl, Nat.le_of_ble_eq_true rfl⟩)) (fun sz => c_X12_up l D cA g sz h_t a_t o22 v1 o26 hc27) [0, 1, 2, 3, 4, 5, 6, 7, 8, 9, 10, 11, 12, 13, 14, 15, 16, 17, 18, 19, 20, 21] [1000, 1001, 1002, 1003, 1004, 1005, 1006, 1007, 1008, 1009, 1010, 1011, 1012, 1013, 1014, 1015, 1016, 1017, 1018, 1019, 1020, 1021] rfl (by decide) rfl (by decide) rfl rfl rfl rfl rfl rfl (Nat.le_of_ble_eq_true rfl) dX12_carry_106 ⟨Nat.zero_le _, Nat.zero_le _⟩ ?_
              refine z_goto (tgt := 117) X dX12_carry_109 (by decide) ?_
              refine z_iconst (v := (0 : Int32)) X dX12_carry_117 (by decide) ?_
              cases hF
              exact z_iret X hA hQ hr rfl dX12_carry_118 (Nat.le_refl _) (Nat.le_refl _)
          · have hF := hF.2 c31
            refine z_aload_n X dX12_carry_89 rfl 1 rfl ?_
            obtain ⟨o29, hc30, hF⟩ := zb1_e hF
            refine z_Vv (As := []) (rest := []) (wc := (w_X12_four cA h_t a_t o5)) (wc' := (w_X12_four cA h_t a_t o29)) (ws' := (w_X12_four cA h_t a_t o29)) X (cwV 0 X.2.2.2.2.1 gX12_carry_X12_gatesOpen rfl rfl rfl (by decide +kernel) (by rw [hR]; exact ⟨Nat.le_of_ble_eq_true rfl, Nat.le_of_ble_eq_true rfl⟩)) (fun sz => c_X12_gatesOpen l D cA g sz h_t a_t o5 o29 hc30) [0, 1, 2, 3, 4, 5, 6, 7, 8, 9, 10, 11, 12, 13, 14, 15, 16, 17, 18, 19, 20, 21] [1000, 1001, 1002, 1003, 1004, 1005, 1006, 1007, 1008, 1009, 1010, 1011, 1012, 1013, 1014, 1015, 1016, 1017, 1018, 1019, 1020, 1021] rfl (by decide) rfl (by decide) rfl rfl rfl rfl rfl rfl (Nat.le_of_ble_eq_true rfl) dX12_carry_90 ⟨Nat.zero_le _, Nat.zero_le _⟩ ?_
            refine z_iload_n X dX12_carry_93 rfl 0 rfl ?_
            cases hF
            exact z_iret X hA hQ hr rfl dX12_carry_94 (Nat.le_refl _) (Nat.le_refl _)
        have hF := if_e hF
        refine z_icmp_ne (tgt := 51) X dX12_carry_44 (by decide) (fun c38 => ?_) (fun c38 => ?_)
        · have hF := hF.2 c38
          refine z_iload_n X dX12_carry_51 rfl 2 rfl ?_
          refine z_iconst (v := (1 : Int32)) X dX12_carry_52 (by decide) ?_
          have hF := if_e hF
          refine z_icmp_ne (tgt := 83) X dX12_carry_53 (by decide) (fun c37 => ?_) (fun c37 => ?_)
          · have hF := hF.2 c37
            refine z_iconst (v := (0 : Int32)) X dX12_carry_83 (by decide) ?_
            refine z_lv (lv' := [(0, .ref h_t), (1, .int v1), (2, .int v2)]) [0, 1, 2] rfl ?_
            exact K21_l (0 : Int32) hF
          · have hF := hF.1 c37
            refine z_aload_n X dX12_carry_56 rfl 0 rfl ?_
            refine z_get (v := .ref (a_t 0)) X k_X12_carry_7 0 rfl rfl dX12_carry_57 ?_
            refine z_bipush (v := (8 : Int32)) X dX12_carry_60 (by decide) ?_
            refine z_iload_n X dX12_carry_62 rfl 1 rfl ?_
            refine z_iadd X dX12_carry_63 ?_
            obtain ⟨g32, hF⟩ := gi_e hF
            refine z_iald X 1 rfl g32 dX12_carry_64 ?_
            refine z_aload_n X dX12_carry_65 rfl 0 rfl ?_
            refine z_get (v := .ref (a_t 0)) X k_X12_carry_7 0 rfl rfl dX12_carry_66 ?_
            refine z_iconst (v := (0 : Int32)) X dX12_carry_69 (by decide) ?_
            obtain ⟨g33, hF⟩ := gi_e hF
            refine z_iald X 1 rfl g33 dX12_carry_70 ?_
            refine z_aload_n X dX12_carry_71 rfl 0 rfl ?_
            obtain ⟨r34, hc35, hF⟩ := zb1_e hF
            refine z_Vi (As := []) (rest := [.int (o5 0 (Int32.toNatClampNeg (0 : Int32))), .int (o5 0 (Int32.toNatClampNeg ((8 : Int32) + v1)))]) (wc := (w_X12_four cA h_t a_t o5)) (wc' := (w_X12_four cA h_t a_t o5)) (ws' := (w_X12_four cA h_t a_t o5)) (rv := r34) X (cwV 0 X.2.2.2.2.1 gX12_carry_X12_lies rfl rfl rfl (by decide +kernel) (by rw [hR]; exact ⟨Nat.le_of_ble_eq_true rfl, Nat.le_of_ble_eq_true rfl⟩)) (fun sz => c_X12_lies l D cA g sz h_t a_t o5 r34 hc35) [0, 1, 2, 3, 4, 5, 6, 7, 8, 9, 10, 11, 12, 13, 14, 15, 16, 17, 18, 19, 20, 21] [1000, 1001, 1002, 1003, 1004, 1005, 1006, 1007, 1008, 1009, 1010, 1011, 1012, 1013, 1014, 1015, 1016, 1017, 1018, 1019, 1020, 1021] rfl (by decide) rfl (by decide) rfl rfl rfl rfl rfl rfl (Nat.le_of_ble_eq_true rfl) dX12_carry_72 ⟨Nat.zero_le _, Nat.zero_le _⟩ ?_
            refine z_isub X dX12_carry_75 ?_
            have hF := if_e hF
            refine z_icmp_le (tgt := 83) X dX12_carry_76 (by decide) (fun c36 => ?_) (fun c36 => ?_)
            · have hF := hF.1 c36
              refine z_iconst (v := (0 : Int32)) X dX12_carry_83 (by decide) ?_
              refine z_lv (lv' := [(0, .ref h_t), (1, .int v1), (2, .int v2)]) [0, 1, 2] rfl ?_
              exact K21_l (0 : Int32) hF
            · have hF := hF.2 c36
              refine z_iconst (v := (2 : Int32)) X dX12_carry_79 (by decide) ?_
              refine z_goto (tgt := 84) X dX12_carry_80 (by decide) ?_
              refine z_lv (lv' := [(0, .ref h_t), (1, .int v1), (2, .int v2)]) [0, 1, 2] rfl ?_
              exact K21_l (2 : Int32) hF
        · have hF := hF.1 c38
          refine z_iconst (v := (1 : Int32)) X dX12_carry_47 (by decide) ?_
          refine z_goto (tgt := 84) X dX12_carry_48 (by decide) ?_
          refine z_lv (lv' := [(0, .ref h_t), (1, .int v1), (2, .int v2)]) [0, 1, 2] rfl ?_
          exact K21_l (1 : Int32) hF
      have hF := if_e hF
      refine z_icmp_ne (tgt := 43) X dX12_carry_36 (by decide) (fun c39 => ?_) (fun c39 => ?_)
      · have hF := hF.2 c39
        refine z_iconst (v := (0 : Int32)) X dX12_carry_43 (by decide) ?_
        refine z_lv (lv' := [(0, .ref h_t), (1, .int v1), (2, .int v2)]) [0, 1, 2] rfl ?_
        exact K12_l (0 : Int32) hF
      · have hF := hF.1 c39
        refine z_iconst (v := (1 : Int32)) X dX12_carry_39 (by decide) ?_
        refine z_goto (tgt := 44) X dX12_carry_40 (by decide) ?_
        refine z_lv (lv' := [(0, .ref h_t), (1, .int v1), (2, .int v2)]) [0, 1, 2] rfl ?_
        exact K12_l (1 : Int32) hF
    · have hF := hF.1 c40
      refine z_bipush (v := (-2 : Int32)) X dX12_carry_17 (by decide) ?_
      cases hF
      exact z_iret X hA hQ hr rfl dX12_carry_19 (Nat.le_refl _) (Nat.le_refl _)
set_option maxRecDepth 20000 in
theorem h_X12_sizeOf_X12 : ∀ w ∈ wsX120, w ∈ wsX12_sizeOf := by decide +kernel
set_option maxRecDepth 20000 in
theorem k_X12_sizeOf_7 : ZF wsX12_sizeOf RX12 7 12 0 RX12 TX12 47 := ⟨rfl, by decide, h_X12_sizeOf_X12, by decide +kernel⟩
set_option maxHeartbeats 8000000 in
set_option maxRecDepth 100000 in
theorem c_X12_sizeOf (l : Launch) (D : va_G) (cA : Nat → ClassId) (g : Nat → Nat) (sz : Nat) (h_t : Nat) (a_t : Nat → Nat) (o_t : Ob) (v1 : Int32) (rv : Int32) (hF : f_X12_sizeOf o_t v1 = some rv) : Met l yX12_sizeOf wsX12_sizeOf ({ frames := 1, cells := 0, slots := 0, locals := 21 }) (va_Pc [.ref h_t, .int v1] (PreW D cA g sz (w_X12_four cA h_t a_t o_t))) (va_Qi (fun (r : Int32) (_ : Unit) => r = rv) (PostW D cA sz (w_X12_four cA h_t a_t o_t) (w_X12_four cA h_t a_t o_t)) (va_A (w_X12_four cA h_t a_t o_t) sz)) 0 0 (va_A (w_X12_four cA h_t a_t o_t) sz) := by
  refine z_start (cc := cX12_sizeOf) (maxL := 4) (ret := (some .int)) (lv0 := [(0, .ref h_t), (1, .int v1)]) (Qc := fun sz => va_Qi (fun (r : Int32) (_ : Unit) => r = rv) (PostW D cA sz (w_X12_four cA h_t a_t o_t) (w_X12_four cA h_t a_t o_t)) (va_A (w_X12_four cA h_t a_t o_t) sz)) (free := fun sz => va_A (w_X12_four cA h_t a_t o_t) sz) (by decide +kernel) rfl rfl (Nat.le_of_ble_eq_true rfl) ?_
  intro p e R s m args below meth c A Q hR hA hQ X hr hin
  unfold f_X12_sizeOf at hF
  refine z_iconst (v := (0 : Int32)) X dX12_sizeOf_0 (by decide) ?_
  refine z_istore_n (lv' := [(2, .int (0 : Int32)), (0, .ref h_t), (1, .int v1)]) X dX12_sizeOf_1 rfl (by decide) rfl ?_
  refine z_iconst (v := (0 : Int32)) X dX12_sizeOf_2 (by decide) ?_
  refine z_istore_n (lv' := [(3, .int (0 : Int32)), (2, .int (0 : Int32)), (0, .ref h_t), (1, .int v1)]) X dX12_sizeOf_3 rfl (by decide) rfl ?_
  obtain ⟨k18, hL, hF⟩ := zb1_e hF
  have L19_x : ∀ (k18' : Int32), k18' = k18 → ZW p l e R s m args below meth c D A 4 0 0 Q (w_X12_four cA h_t a_t o_t) [(2, .int k18')] 44 [] := by
    intro k18' hz
    cases hz
    refine z_iload_n X dX12_sizeOf_44 rfl 0 rfl ?_
    cases hF
    exact z_iret X hA hQ hr rfl dX12_sizeOf_45 (Nat.le_refl _) (Nat.le_refl _)
  obtain ⟨B33, hBB33, hL⟩ := zl2_b hL
  have L19 : ∀ (n : Nat) (k16 : Int32) (k17 : Int32), zl2 B33 n k16 k17 = some k18 → ZW p l e R s m args below meth c D A 4 0 0 Q (w_X12_four cA h_t a_t o_t) [(0, .ref h_t), (1, .int v1), (2, .int k16), (3, .int k17)] 4 [] := by
    intro n
    induction n with
    | zero => intro k16 k17 hL; cases hL
    | succ n ih =>
      intro k16 k17 hL
      obtain ⟨zz20, hF, hL⟩ := zl2_e hL
      rw [hBB33] at hF
      refine z_iload_n X dX12_sizeOf_4 rfl 3 rfl ?_
      refine z_aload_n X dX12_sizeOf_5 rfl 0 rfl ?_
      refine z_get (v := .ref (a_t 0)) X k_X12_sizeOf_7 0 rfl rfl dX12_sizeOf_6 ?_
      refine z_iconst (v := (2 : Int32)) X dX12_sizeOf_9 (by decide) ?_
      obtain ⟨g21, hF⟩ := gi_e hF
      refine z_iald X 1 rfl g21 dX12_sizeOf_10 ?_
      have hF := if_e hF
      refine z_icmp_ge (tgt := 44) X dX12_sizeOf_11 (by decide) (fun c32 => ?_) (fun c32 => ?_)
      · have hF := hF.1 c32
        cases hF
        have hL := Option.some.inj hL
        refine z_lv (lv' := [(2, .int k16)]) [2] rfl ?_
        exact L19_x k16 hL
      · have hF := hF.2 c32
        refine z_iload_n X dX12_sizeOf_14 rfl 2 rfl ?_
        refine z_iload_n X dX12_sizeOf_15 rfl 1 rfl ?_
        refine z_iload_n X dX12_sizeOf_16 rfl 3 rfl ?_
        obtain ⟨r22, hc23, hF⟩ := zb1_e hF
        refine z_Si (As := [.int v1, .int k17]) (rest := [.int k16]) (wc := ([] : va_W)) (wc' := ([] : va_W)) (ws' := (w_X12_four cA h_t a_t o_t)) (rv := r22) X (va_cwS 2 X.2.2.2.2.1 gX12_sizeOf_X12_bitOf rfl rfl rfl (by decide +kernel) (by rw [hR]; exact ⟨Nat.le_of_ble_eq_true rfl, Nat.le_of_ble_eq_true rfl⟩)) (fun sz => c_X12_bitOf l D cA g sz v1 k17 r22 hc23) [] [0, 1, 2, 3, 4, 5, 6, 7, 8, 9, 10, 11, 12, 13, 14, 15, 16, 17, 18, 19, 20, 21] rfl (by decide) rfl (by decide) rfl rfl rfl (Nat.le_of_ble_eq_true rfl) dX12_sizeOf_17 ⟨Nat.zero_le _, Nat.zero_le _⟩ ?_
        obtain ⟨K27, eK27, hF⟩ := nx_e hF
        have K27_l : ∀ (j26 : Int32), K27 j26 = some zz20 → ZW p l e R s m args below meth c D A 4 0 0 Q (w_X12_four cA h_t a_t o_t) [(0, .ref h_t), (1, .int v1), (3, .int k17)] 36 [.int j26, .int k16] := by
          intro j26 hF
          rw [eK27] at hF
          refine z_iadd X dX12_sizeOf_36 ?_
          obtain ⟨x28, ex28, hF⟩ := nx_e hF
          refine z_nm ex28 ?_
          refine z_istore_n (lv' := [(2, .int x28), (0, .ref h_t), (1, .int v1), (3, .int k17)]) X dX12_sizeOf_37 rfl (by decide) rfl ?_
          obtain ⟨x29, ex29, hF⟩ := nx_e hF
          refine z_iinc (v := x29) (lv' := [(3, .int x29), (2, .int x28), (0, .ref h_t), (1, .int v1)]) (j := 3) X dX12_sizeOf_38 rfl (by rw [ex29]; rfl) (by decide) rfl ?_
          refine z_goto (tgt := 4) X dX12_sizeOf_41 (by decide) ?_
          cases hF
          refine z_lv (lv' := [(0, .ref h_t), (1, .int v1), (2, .int x28), (3, .int x29)]) [2, 3, 1, 0] rfl ?_
          exact ih x28 x29 hL
        have hF := if_e hF
        refine z_if_eq (tgt := 35) X dX12_sizeOf_20 (by decide) (fun c31 => ?_) (fun c31 => ?_)
        · have hF := hF.1 c31
          refine z_iconst (v := (0 : Int32)) X dX12_sizeOf_35 (by decide) ?_
          refine z_lv (lv' := [(0, .ref h_t), (1, .int v1), (3, .int k17)]) [0, 1, 3] rfl ?_
          exact K27_l (0 : Int32) hF
        · have hF := hF.2 c31
          refine z_aload_n X dX12_sizeOf_23 rfl 0 rfl ?_
          refine z_get (v := .ref (a_t 0)) X k_X12_sizeOf_7 0 rfl rfl dX12_sizeOf_24 ?_
          refine z_bipush (v := (8 : Int32)) X dX12_sizeOf_27 (by decide) ?_
          refine z_iload_n X dX12_sizeOf_29 rfl 3 rfl ?_
          refine z_iadd X dX12_sizeOf_30 ?_
          obtain ⟨g30, hF⟩ := gi_e hF
          refine z_iald X 1 rfl g30 dX12_sizeOf_31 ?_
          refine z_goto (tgt := 36) X dX12_sizeOf_32 (by decide) ?_
          refine z_lv (lv' := [(0, .ref h_t), (1, .int v1), (3, .int k17)]) [0, 1, 3] rfl ?_
          exact K27_l (o_t 0 (Int32.toNatClampNeg ((8 : Int32) + k17))) hF
  refine z_lv (lv' := [(0, .ref h_t), (1, .int v1), (2, .int (0 : Int32)), (3, .int (0 : Int32))]) [2, 3, 1, 0] rfl ?_
  exact L19 FU (0 : Int32) (0 : Int32) hL
set_option maxRecDepth 20000 in
theorem h_X12_priceOf_X12 : ∀ w ∈ wsX120, w ∈ wsX12_priceOf := by decide +kernel
set_option maxRecDepth 20000 in
theorem k_X12_priceOf_7 : ZF wsX12_priceOf RX12 7 12 0 RX12 TX12 47 := ⟨rfl, by decide, h_X12_priceOf_X12, by decide +kernel⟩
set_option maxHeartbeats 8000000 in
set_option maxRecDepth 100000 in
theorem c_X12_priceOf (l : Launch) (D : va_G) (cA : Nat → ClassId) (g : Nat → Nat) (sz : Nat) (h_t : Nat) (a_t : Nat → Nat) (o_t : Ob) (v1 : Int32) (rv : Int32) (hF : f_X12_priceOf o_t v1 = some rv) : Met l yX12_priceOf wsX12_priceOf ({ frames := 1, cells := 0, slots := 0, locals := 21 }) (va_Pc [.ref h_t, .int v1] (PreW D cA g sz (w_X12_four cA h_t a_t o_t))) (va_Qi (fun (r : Int32) (_ : Unit) => r = rv) (PostW D cA sz (w_X12_four cA h_t a_t o_t) (w_X12_four cA h_t a_t o_t)) (va_A (w_X12_four cA h_t a_t o_t) sz)) 0 0 (va_A (w_X12_four cA h_t a_t o_t) sz) := by
  refine z_start (cc := cX12_priceOf) (maxL := 4) (ret := (some .int)) (lv0 := [(0, .ref h_t), (1, .int v1)]) (Qc := fun sz => va_Qi (fun (r : Int32) (_ : Unit) => r = rv) (PostW D cA sz (w_X12_four cA h_t a_t o_t) (w_X12_four cA h_t a_t o_t)) (va_A (w_X12_four cA h_t a_t o_t) sz)) (free := fun sz => va_A (w_X12_four cA h_t a_t o_t) sz) (by decide +kernel) rfl rfl (Nat.le_of_ble_eq_true rfl) ?_
  intro p e R s m args below meth c A Q hR hA hQ X hr hin
  unfold f_X12_priceOf at hF
  refine z_iconst (v := (0 : Int32)) X dX12_priceOf_0 (by decide) ?_
  refine z_istore_n (lv' := [(2, .int (0 : Int32)), (0, .ref h_t), (1, .int v1)]) X dX12_priceOf_1 rfl (by decide) rfl ?_
  refine z_iconst (v := (0 : Int32)) X dX12_priceOf_2 (by decide) ?_
  refine z_istore_n (lv' := [(3, .int (0 : Int32)), (2, .int (0 : Int32)), (0, .ref h_t), (1, .int v1)]) X dX12_priceOf_3 rfl (by decide) rfl ?_
  obtain ⟨k18, hL, hF⟩ := zb1_e hF
  have L19_x : ∀ (k18' : Int32), k18' = k18 → ZW p l e R s m args below meth c D A 4 0 0 Q (w_X12_four cA h_t a_t o_t) [(2, .int k18')] 44 [] := by
    intro k18' hz
    cases hz
    refine z_iload_n X dX12_priceOf_44 rfl 0 rfl ?_
    cases hF
    exact z_iret X hA hQ hr rfl dX12_priceOf_45 (Nat.le_refl _) (Nat.le_refl _)
  obtain ⟨B33, hBB33, hL⟩ := zl2_b hL
  have L19 : ∀ (n : Nat) (k16 : Int32) (k17 : Int32), zl2 B33 n k16 k17 = some k18 → ZW p l e R s m args below meth c D A 4 0 0 Q (w_X12_four cA h_t a_t o_t) [(0, .ref h_t), (1, .int v1), (2, .int k16), (3, .int k17)] 4 [] := by
    intro n
    induction n with
    | zero => intro k16 k17 hL; cases hL
    | succ n ih =>
      intro k16 k17 hL
      obtain ⟨zz20, hF, hL⟩ := zl2_e hL
      rw [hBB33] at hF
      refine z_iload_n X dX12_priceOf_4 rfl 3 rfl ?_
      refine z_aload_n X dX12_priceOf_5 rfl 0 rfl ?_
      refine z_get (v := .ref (a_t 0)) X k_X12_priceOf_7 0 rfl rfl dX12_priceOf_6 ?_
      refine z_iconst (v := (2 : Int32)) X dX12_priceOf_9 (by decide) ?_
      obtain ⟨g21, hF⟩ := gi_e hF
      refine z_iald X 1 rfl g21 dX12_priceOf_10 ?_
      have hF := if_e hF
      refine z_icmp_ge (tgt := 44) X dX12_priceOf_11 (by decide) (fun c32 => ?_) (fun c32 => ?_)
      · have hF := hF.1 c32
        cases hF
        have hL := Option.some.inj hL
        refine z_lv (lv' := [(2, .int k16)]) [2] rfl ?_
        exact L19_x k16 hL
      · have hF := hF.2 c32
        refine z_iload_n X dX12_priceOf_14 rfl 2 rfl ?_
        refine z_iload_n X dX12_priceOf_15 rfl 1 rfl ?_
        refine z_iload_n X dX12_priceOf_16 rfl 3 rfl ?_
        obtain ⟨r22, hc23, hF⟩ := zb1_e hF
        refine z_Si (As := [.int v1, .int k17]) (rest := [.int k16]) (wc := ([] : va_W)) (wc' := ([] : va_W)) (ws' := (w_X12_four cA h_t a_t o_t)) (rv := r22) X (va_cwS 2 X.2.2.2.2.1 gX12_priceOf_X12_bitOf rfl rfl rfl (by decide +kernel) (by rw [hR]; exact ⟨Nat.le_of_ble_eq_true rfl, Nat.le_of_ble_eq_true rfl⟩)) (fun sz => c_X12_bitOf l D cA g sz v1 k17 r22 hc23) [] [0, 1, 2, 3, 4, 5, 6, 7, 8, 9, 10, 11, 12, 13, 14, 15, 16, 17, 18, 19, 20, 21] rfl (by decide) rfl (by decide) rfl rfl rfl (Nat.le_of_ble_eq_true rfl) dX12_priceOf_17 ⟨Nat.zero_le _, Nat.zero_le _⟩ ?_
        obtain ⟨K27, eK27, hF⟩ := nx_e hF
        have K27_l : ∀ (j26 : Int32), K27 j26 = some zz20 → ZW p l e R s m args below meth c D A 4 0 0 Q (w_X12_four cA h_t a_t o_t) [(0, .ref h_t), (1, .int v1), (3, .int k17)] 36 [.int j26, .int k16] := by
          intro j26 hF
          rw [eK27] at hF
          refine z_iadd X dX12_priceOf_36 ?_
          obtain ⟨x28, ex28, hF⟩ := nx_e hF
          refine z_nm ex28 ?_
          refine z_istore_n (lv' := [(2, .int x28), (0, .ref h_t), (1, .int v1), (3, .int k17)]) X dX12_priceOf_37 rfl (by decide) rfl ?_
          obtain ⟨x29, ex29, hF⟩ := nx_e hF
          refine z_iinc (v := x29) (lv' := [(3, .int x29), (2, .int x28), (0, .ref h_t), (1, .int v1)]) (j := 3) X dX12_priceOf_38 rfl (by rw [ex29]; rfl) (by decide) rfl ?_
          refine z_goto (tgt := 4) X dX12_priceOf_41 (by decide) ?_
          cases hF
          refine z_lv (lv' := [(0, .ref h_t), (1, .int v1), (2, .int x28), (3, .int x29)]) [2, 3, 1, 0] rfl ?_
          exact ih x28 x29 hL
        have hF := if_e hF
        refine z_if_eq (tgt := 35) X dX12_priceOf_20 (by decide) (fun c31 => ?_) (fun c31 => ?_)
        · have hF := hF.1 c31
          refine z_iconst (v := (0 : Int32)) X dX12_priceOf_35 (by decide) ?_
          refine z_lv (lv' := [(0, .ref h_t), (1, .int v1), (3, .int k17)]) [0, 1, 3] rfl ?_
          exact K27_l (0 : Int32) hF
        · have hF := hF.2 c31
          refine z_aload_n X dX12_priceOf_23 rfl 0 rfl ?_
          refine z_get (v := .ref (a_t 0)) X k_X12_priceOf_7 0 rfl rfl dX12_priceOf_24 ?_
          refine z_bipush (v := (16 : Int32)) X dX12_priceOf_27 (by decide) ?_
          refine z_iload_n X dX12_priceOf_29 rfl 3 rfl ?_
          refine z_iadd X dX12_priceOf_30 ?_
          obtain ⟨g30, hF⟩ := gi_e hF
          refine z_iald X 1 rfl g30 dX12_priceOf_31 ?_
          refine z_goto (tgt := 36) X dX12_priceOf_32 (by decide) ?_
          refine z_lv (lv' := [(0, .ref h_t), (1, .int v1), (3, .int k17)]) [0, 1, 3] rfl ?_
          exact K27_l (o_t 0 (Int32.toNatClampNeg ((16 : Int32) + k17))) hF
  refine z_lv (lv' := [(0, .ref h_t), (1, .int v1), (2, .int (0 : Int32)), (3, .int (0 : Int32))]) [2, 3, 1, 0] rfl ?_
  exact L19 FU (0 : Int32) (0 : Int32) hL
