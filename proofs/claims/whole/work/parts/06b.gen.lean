abbrev w_X5_begin (cA : Nat → ClassId) (h_t : Nat) (a_t : Nat → Nat) (n_t : Nat) (o_t : Ob) (h_p1 : Nat) (a_p1 : Nat → Nat) (o_p1 : Ob) : va_W := [(h_t, .inr (5, [.int (o_t 0 0), .ref (a_t 1), .ref (a_t 2), .ref (a_t 3), .ref (a_t 4), .int (o_t 5 0), .int (o_t 6 0), .int (o_t 7 0), .int (o_t 8 0), .ref (a_t 9)])), (a_t 1, .inl (cA 0, n_t, .inl (o_t 1))), (a_t 2, .inl (cA 0, 256, .inl (o_t 2))), (a_t 3, .inl (cA 0, 256, .inl (o_t 3))), (a_t 4, .inl (cA 0, 256, .inl (o_t 4))), (a_t 9, .inl (cA 0, 40, .inl (o_t 9))), (h_p1, .inr (10, [.int (o_p1 0 0), .ref (a_p1 1), .ref (a_p1 2), .ref (a_p1 3), .ref (a_p1 4)])), (a_p1 1, .inl (cA 0, 8, .inl (o_p1 1))), (a_p1 2, .inl (cA 0, 8, .inl (o_p1 2))), (a_p1 3, .inl (cA 0, 8, .inl (o_p1 3))), (a_p1 4, .inl (cA 0, 8, .inl (o_p1 4)))]
set_option maxRecDepth 20000 in
theorem h_X5_begin_X5 : ∀ w ∈ wsX50, w ∈ wsX5_begin := by decide +kernel
set_option maxRecDepth 20000 in
theorem k_X5_begin_9 : ZF wsX5_begin RX5 9 5 2 RX5 TX5 10 := ⟨rfl, by decide, h_X5_begin_X5, by decide +kernel⟩
set_option maxRecDepth 20000 in
theorem k_X5_begin_15 : ZF wsX5_begin RX5 15 5 3 RX5 TX5 10 := ⟨rfl, by decide, h_X5_begin_X5, by decide +kernel⟩
set_option maxRecDepth 20000 in
theorem k_X5_begin_18 : ZF wsX5_begin RX5 18 5 4 RX5 TX5 10 := ⟨rfl, by decide, h_X5_begin_X5, by decide +kernel⟩
set_option maxRecDepth 20000 in
theorem k_X5_begin_21 : ZF wsX5_begin RX5 21 5 7 RX5 TX5 10 := ⟨rfl, by decide, h_X5_begin_X5, by decide +kernel⟩
set_option maxRecDepth 20000 in
theorem k_X5_begin_35 : ZF wsX5_begin RX5 35 5 1 RX5 TX5 10 := ⟨rfl, by decide, h_X5_begin_X5, by decide +kernel⟩
set_option maxRecDepth 20000 in
theorem h_X5_begin_X10 : ∀ w ∈ wsX100, w ∈ wsX5_begin := by decide +kernel
set_option maxRecDepth 20000 in
theorem k_X5_begin_69 : ZF wsX5_begin RX5 69 10 1 RX10 TX10 5 := ⟨rfl, by decide, h_X5_begin_X10, by decide +kernel⟩
set_option maxRecDepth 20000 in
theorem k_X5_begin_90 : ZF wsX5_begin RX5 90 10 0 RX10 TX10 5 := ⟨rfl, by decide, h_X5_begin_X10, by decide +kernel⟩
set_option maxRecDepth 20000 in
theorem k_X5_begin_91 : ZF wsX5_begin RX5 91 5 6 RX5 TX5 10 := ⟨rfl, by decide, h_X5_begin_X5, by decide +kernel⟩
set_option maxRecDepth 20000 in
theorem k_X5_begin_98 : ZF wsX5_begin RX5 98 10 2 RX10 TX10 5 := ⟨rfl, by decide, h_X5_begin_X10, by decide +kernel⟩
set_option maxRecDepth 20000 in
theorem k_X5_begin_101 : ZF wsX5_begin RX5 101 5 5 RX5 TX5 10 := ⟨rfl, by decide, h_X5_begin_X5, by decide +kernel⟩
set_option maxRecDepth 20000 in
theorem k_X5_begin_c82 : Cond.constant RX5 82 (1000000) ∈ wsX5_begin := by decide +kernel
set_option maxHeartbeats 8000000 in
set_option maxRecDepth 100000 in
theorem c_X5_begin (l : Launch) (D : va_G) (cA : Nat → ClassId) (g : Nat → Nat) (sz : Nat) (h_t : Nat) (a_t : Nat → Nat) (n_t : Nat) (o_t : Ob) (h_p1 : Nat) (a_p1 : Nat → Nat) (o_p1 : Ob) (v2 : Int32) (o_t' : Ob) (hF : f_X5_begin n_t o_t o_p1 v2 = some o_t') : Met l yX5_begin wsX5_begin ({ frames := 1, cells := 0, slots := 0, locals := 25 }) (va_Pc [.ref h_t, .ref h_p1, .int v2] (PreW D cA g sz (w_X5_begin cA h_t a_t n_t o_t h_p1 a_p1 o_p1))) (va_Qv (fun (_ : Unit) => True) (PostW D cA sz (w_X5_begin cA h_t a_t n_t o_t h_p1 a_p1 o_p1) (w_X5_begin cA h_t a_t n_t o_t' h_p1 a_p1 o_p1)) (va_A (w_X5_begin cA h_t a_t n_t o_t h_p1 a_p1 o_p1) sz)) 0 0 (va_A (w_X5_begin cA h_t a_t n_t o_t h_p1 a_p1 o_p1) sz) := by
  refine z_start (cc := cX5_begin) (maxL := 4) (ret := none) (lv0 := [(0, .ref h_t), (1, .ref h_p1), (2, .int v2)]) (Qc := fun sz => va_Qv (fun (_ : Unit) => True) (PostW D cA sz (w_X5_begin cA h_t a_t n_t o_t h_p1 a_p1 o_p1) (w_X5_begin cA h_t a_t n_t o_t' h_p1 a_p1 o_p1)) (va_A (w_X5_begin cA h_t a_t n_t o_t h_p1 a_p1 o_p1) sz)) (free := fun sz => va_A (w_X5_begin cA h_t a_t n_t o_t h_p1 a_p1 o_p1) sz) (by decide +kernel) rfl rfl (Nat.le_of_ble_eq_true rfl) ?_
  intro p e R s m args below meth c A Q hR hA hQ X hr hin
  unfold f_X5_begin at hF
  refine z_aload_n X dX5_begin_0 rfl 0 rfl ?_
  refine z_aload_n X dX5_begin_1 rfl 1 rfl ?_
  refine z_get (v := .int (o_p1 0 0)) X k_X5_begin_90 6 rfl rfl dX5_begin_2 ?_
  obtain ⟨o1, eo1, hF⟩ := nx_e hF
  refine z_put (ws' := (w_X5_begin cA h_t a_t n_t o1 h_p1 a_p1 o_p1)) X k_X5_begin_91 tyX5 tyX5_ok nmX5 rfl rfl 0 rfl (Nat.le_of_ble_eq_true rfl) (by rw [eo1]; rfl) dX5_begin_5 ?_
  refine z_aload_n X dX5_begin_8 rfl 1 rfl ?_
  refine z_aload_n X dX5_begin_9 rfl 1 rfl ?_
  refine z_get (v := .ref (a_p1 1)) X k_X5_begin_69 6 rfl rfl dX5_begin_10 ?_
  refine z_aload_n X dX5_begin_13 rfl 0 rfl ?_
  refine z_get (v := .ref (a_t 2)) X k_X5_begin_9 0 rfl rfl dX5_begin_14 ?_
  obtain ⟨o2, hc3, hF⟩ := zb1_e hF
  obtain ⟨o4, eo4, hF⟩ := nx_e hF
  refine z_Vv (As := [.ref (a_p1 1), .ref (a_t 2)]) (rest := []) (wc := (w_X10_sumSets__size cA h_p1 a_p1 o_p1 (a_t 2) 256 (o1 2))) (wc' := (w_X10_sumSets__size cA h_p1 a_p1 o_p1 (a_t 2) 256 o2)) (ws' := (w_X5_begin cA h_t a_t n_t o4 h_p1 a_p1 o_p1)) X (cwV 2 X.2.2.2.2.1 gX5_begin_X10_sumSets rfl rfl rfl (by decide +kernel) (by rw [hR]; exact ⟨Nat.le_of_ble_eq_true rfl, Nat.le_of_ble_eq_true rfl⟩)) (fun sz => c_X10_sumSets__size l D cA g sz h_p1 a_p1 o_p1 (a_t 2) 256 (o1 2) o2 hc3) [6, 7, 8, 9, 10, 2] [0, 1, 1005, 3, 4, 5, 1000, 1001, 1002, 1003, 1004] rfl (by decide) (by rw [eo4]; rfl) (by decide) rfl rfl rfl rfl rfl rfl (Nat.le_of_ble_eq_true rfl) dX5_begin_17 ⟨Nat.zero_le _, Nat.zero_le _⟩ ?_
  refine z_aload_n X dX5_begin_20 rfl 1 rfl ?_
  refine z_aload_n X dX5_begin_21 rfl 1 rfl ?_
  refine z_get (v := .ref (a_p1 2)) X k_X5_begin_98 6 rfl rfl dX5_begin_22 ?_
  refine z_aload_n X dX5_begin_25 rfl 0 rfl ?_
  refine z_get (v := .ref (a_t 3)) X k_X5_begin_15 0 rfl rfl dX5_begin_26 ?_
  obtain ⟨o5, hc6, hF⟩ := zb1_e hF
  obtain ⟨o7, eo7, hF⟩ := nx_e hF
  refine z_Vv (As := [.ref (a_p1 2), .ref (a_t 3)]) (rest := []) (wc := (w_X10_sumSets__size cA h_p1 a_p1 o_p1 (a_t 3) 256 (o4 3))) (wc' := (w_X10_sumSets__size cA h_p1 a_p1 o_p1 (a_t 3) 256 o5)) (ws' := (w_X5_begin cA h_t a_t n_t o7 h_p1 a_p1 o_p1)) X (cwV 2 X.2.2.2.2.1 gX5_begin_X10_sumSets rfl rfl rfl (by decide +kernel) (by rw [hR]; exact ⟨Nat.le_of_ble_eq_true rfl, Nat.le_of_ble_eq_true rfl⟩)) (fun sz => c_X10_sumSets__price l D cA g sz h_p1 a_p1 o_p1 (a_t 3) 256 (o4 3) o5 hc6) [6, 7, 8, 9, 10, 3] [0, 1, 2, 1005, 4, 5, 1000, 1001, 1002, 1003, 1004] rfl (by decide) (by rw [eo7]; rfl) (by decide) rfl rfl rfl rfl rfl rfl (Nat.le_of_ble_eq_true rfl) dX5_begin_29 ⟨Nat.zero_le _, Nat.zero_le _⟩ ?_
  refine z_aload_n X dX5_begin_32 rfl 0 rfl ?_
  refine z_iconst (v := (0 : Int32)) X dX5_begin_33 (by decide) ?_
  obtain ⟨o8, eo8, hF⟩ := nx_e hF
  refine z_put (ws' := (w_X5_begin cA h_t a_t n_t o8 h_p1 a_p1 o_p1)) X k_X5_begin_101 tyX5 tyX5_ok nmX5 rfl rfl 0 rfl (Nat.le_of_ble_eq_true rfl) (by rw [eo8]; rfl) dX5_begin_34 ?_
  refine z_iconst (v := (0 : Int32)) X dX5_begin_37 (by decide) ?_
  refine z_istore_n (lv' := [(3, .int (0 : Int32)), (0, .ref h_t), (1, .ref h_p1), (2, .int v2)]) X dX5_begin_38 rfl (by decide) rfl ?_
  obtain ⟨o24, hL, hF⟩ := zb1_e hF
  have L28_x : ∀ (o24' : Ob), o24' = o24 → ZW p l e R s m args below meth c D A 4 0 0 Q (w_X5_begin cA h_t a_t n_t o24' h_p1 a_p1 o_p1) [(0, .ref h_t)] 90 [] := by
    intro o24' hz
    cases hz
    refine z_aload_n X dX5_begin_90 rfl 0 rfl ?_
    refine z_get (v := .ref (a_t 1)) X k_X5_begin_35 0 rfl rfl dX5_begin_91 ?_
    refine z_iconst (v := (0 : Int32)) X dX5_begin_94 (by decide) ?_
    refine z_iconst (v := (0 : Int32)) X dX5_begin_95 (by decide) ?_
    obtain ⟨g25, hF⟩ := gi_e hF
    obtain ⟨o26, eo26, hF⟩ := nx_e hF
    refine z_iast (ws' := (w_X5_begin cA h_t a_t n_t o26 h_p1 a_p1 o_p1)) X 1 rfl g25 (by rw [eo26]; rfl) dX5_begin_96 ?_
    refine z_aload_n X dX5_begin_97 rfl 0 rfl ?_
    refine z_iconst (v := (0 : Int32)) X dX5_begin_98 (by decide) ?_
    obtain ⟨o27, eo27, hF⟩ := nx_e hF
    refine z_put (ws' := (w_X5_begin cA h_t a_t n_t o27 h_p1 a_p1 o_p1)) X k_X5_begin_21 tyX5 tyX5_ok nmX5 rfl rfl 0 rfl (Nat.le_of_ble_eq_true rfl) (by rw [eo27]; rfl) dX5_begin_99 ?_
    cases hF
    exact z_vret X hA hQ hr dX5_begin_102 (Nat.le_refl _) (Nat.le_refl _)
  obtain ⟨B40, hBB40, hL⟩ := zl2_b hL
  have L28 : ∀ (n : Nat) (o22 : Ob) (k23 : Int32), zl2 B40 n o22 k23 = some o24 → ZW p l e R s m args below meth c D A 4 0 0 Q (w_X5_begin cA h_t a_t n_t o22 h_p1 a_p1 o_p1) [(0, .ref h_t), (2, .int v2), (3, .int k23)] 39 [] := by
    intro n
    induction n with
    | zero => intro o22 k23 hL; cases hL
    | succ n ih =>
      intro o22 k23 hL
      obtain ⟨zz29, hF, hL⟩ := zl2_e hL
      rw [hBB40] at hF
      refine z_iload_n X dX5_begin_39 rfl 2 rfl ?_
      refine z_iconst (v := (1 : Int32)) X dX5_begin_40 (by decide) ?_
      refine z_aload_n X dX5_begin_41 rfl 0 rfl ?_
      refine z_get (v := .int (o22 6 0)) X k_X5_begin_91 0 rfl rfl dX5_begin_42 ?_
      refine z_ishl X dX5_begin_45 ?_
      have hF := if_e hF
      refine z_icmp_ge (tgt := 90) X dX5_begin_46 (by decide) (fun c39 => ?_) (fun c39 => ?_)
      · have hF := hF.1 c39
        cases hF
        have hL := Option.some.inj hL
        refine z_lv (lv' := [(0, .ref h_t)]) [0] rfl ?_
        exact L28_x o22 hL
      · have hF := hF.2 c39
        refine z_aload_n X dX5_begin_49 rfl 0 rfl ?_
        refine z_get (v := .ref (a_t 2)) X k_X5_begin_9 0 rfl rfl dX5_begin_50 ?_
        refine z_iload_n X dX5_begin_53 rfl 2 rfl ?_
        obtain ⟨g30, hF⟩ := gi_e hF
        refine z_iald X 2 rfl g30 dX5_begin_54 ?_
        refine z_iload_n X dX5_begin_55 rfl 1 rfl ?_
        have hF := if_e hF
        refine z_icmp_gt (tgt := 84) X dX5_begin_56 (by decide) (fun c38 => ?_) (fun c38 => ?_)
        · have hF := hF.1 c38
          obtain ⟨x31, ex31, hF⟩ := nx_e hF
          refine z_iinc (v := x31) (lv' := [(3, .int x31), (0, .ref h_t), (2, .int v2)]) (j := 2) X dX5_begin_84 rfl (by rw [ex31]; rfl) (by decide) rfl ?_
          refine z_goto (tgt := 39) X dX5_begin_87 (by decide) ?_
          cases hF
          refine z_lv (lv' := [(0, .ref h_t), (2, .int v2), (3, .int x31)]) [1, 2, 0] rfl ?_
          exact ih o22 x31 hL
        · have hF := hF.2 c38
          refine z_aload_n X dX5_begin_59 rfl 0 rfl ?_
          refine z_get (v := .ref (a_t 4)) X k_X5_begin_18 0 rfl rfl dX5_begin_60 ?_
          refine z_aload_n X dX5_begin_63 rfl 0 rfl ?_
          refine z_dup X dX5_begin_64 rfl ?_
          refine z_get (v := .int (o22 5 0)) X k_X5_begin_101 0 rfl rfl dX5_begin_65 ?_
          refine z_dup_x1 X dX5_begin_68 rfl rfl ?_
          refine z_iconst (v := (1 : Int32)) X dX5_begin_69 (by decide) ?_
          refine z_iadd X dX5_begin_70 ?_
          obtain ⟨o32, eo32, hF⟩ := nx_e hF
          refine z_put (ws' := (w_X5_begin cA h_t a_t n_t o32 h_p1 a_p1 o_p1)) X k_X5_begin_101 tyX5 tyX5_ok nmX5 rfl rfl 0 rfl (Nat.le_of_ble_eq_true rfl) (by rw [eo32]; rfl) dX5_begin_71 ?_
          refine z_iload_n X dX5_begin_74 rfl 2 rfl ?_
          obtain ⟨g33, hF⟩ := gi_e hF
          obtain ⟨o34, eo34, hF⟩ := nx_e hF
          refine z_iast (ws' := (w_X5_begin cA h_t a_t n_t o34 h_p1 a_p1 o_p1)) X 4 rfl g33 (by rw [eo34]; rfl) dX5_begin_75 ?_
          refine z_aload_n X dX5_begin_76 rfl 0 rfl ?_
          refine z_get (v := .ref (a_t 1)) X k_X5_begin_35 0 rfl rfl dX5_begin_77 ?_
          refine z_iload_n X dX5_begin_80 rfl 2 rfl ?_
          refine z_ldc X k_X5_begin_c82 dX5_begin_81 ?_
          obtain ⟨g35, hF⟩ := gi_e hF
          obtain ⟨o36, eo36, hF⟩ := nx_e hF
          refine z_iast (ws' := (w_X5_begin cA h_t a_t n_t o36 h_p1 a_p1 o_p1)) X 1 rfl g35 (by rw [eo36]; rfl) dX5_begin_83 ?_
          obtain ⟨x37, ex37, hF⟩ := nx_e hF
          refine z_iinc (v := x37) (lv' := [(3, .int x37), (0, .ref h_t), (2, .int v2)]) (j := 2) X dX5_begin_84 rfl (by rw [ex37]; rfl) (by decide) rfl ?_
          refine z_goto (tgt := 39) X dX5_begin_87 (by decide) ?_
          cases hF
          refine z_lv (lv' := [(0, .ref h_t), (2, .int v2), (3, .int x37)]) [1, 2, 0] rfl ?_
          exact ih o36 x37 hL
  refine z_lv (lv' := [(0, .ref h_t), (2, .int v2), (3, .int (0 : Int32))]) [1, 3, 0] rfl ?_
  exact L28 FU o8 (0 : Int32) hL
set_option maxRecDepth 20000 in
theorem h_X5_letDown_X5 : ∀ w ∈ wsX50, w ∈ wsX5_letDown := by decide +kernel
set_option maxRecDepth 20000 in
theorem k_X5_letDown_18 : ZF wsX5_letDown RX5 18 5 4 RX5 TX5 10 := ⟨rfl, by decide, h_X5_letDown_X5, by decide +kernel⟩
set_option maxRecDepth 20000 in
theorem k_X5_letDown_35 : ZF wsX5_letDown RX5 35 5 1 RX5 TX5 10 := ⟨rfl, by decide, h_X5_letDown_X5, by decide +kernel⟩
set_option maxRecDepth 20000 in
theorem k_X5_letDown_101 : ZF wsX5_letDown RX5 101 5 5 RX5 TX5 10 := ⟨rfl, by decide, h_X5_letDown_X5, by decide +kernel⟩
set_option maxHeartbeats 8000000 in
set_option maxRecDepth 100000 in
theorem c_X5_letDown (l : Launch) (D : va_G) (cA : Nat → ClassId) (g : Nat → Nat) (sz : Nat) (h_t : Nat) (a_t : Nat → Nat) (n_t : Nat) (o_t : Ob) (v1 : Int32) (v2 : Int32) (o_t' : Ob) (hF : f_X5_letDown n_t o_t v1 v2 = some o_t') : Met l yX5_letDown wsX5_letDown ({ frames := 0, cells := 0, slots := 0, locals := 0 }) (va_Pc [.ref h_t, .int v1, .int v2] (PreW D cA g sz (w_X5_forget cA h_t a_t n_t o_t))) (va_Qv (fun (_ : Unit) => True) (PostW D cA sz (w_X5_forget cA h_t a_t n_t o_t) (w_X5_forget cA h_t a_t n_t o_t')) (va_A (w_X5_forget cA h_t a_t n_t o_t) sz)) 0 0 (va_A (w_X5_forget cA h_t a_t n_t o_t) sz) := by
  refine z_start (cc := cX5_letDown) (maxL := 5) (ret := none) (lv0 := [(0, .ref h_t), (1, .int v1), (2, .int v2)]) (Qc := fun sz => va_Qv (fun (_ : Unit) => True) (PostW D cA sz (w_X5_forget cA h_t a_t n_t o_t) (w_X5_forget cA h_t a_t n_t o_t')) (va_A (w_X5_forget cA h_t a_t n_t o_t) sz)) (free := fun sz => va_A (w_X5_forget cA h_t a_t n_t o_t) sz) (by decide +kernel) rfl rfl (Nat.le_of_ble_eq_true rfl) ?_
  intro p e R s m args below meth c A Q hR hA hQ X hr hin
  unfold f_X5_letDown at hF
  refine z_iconst (v := (0 : Int32)) X dX5_letDown_0 (by decide) ?_
  refine z_istore_n (lv' := [(3, .int (0 : Int32)), (0, .ref h_t), (1, .int v1), (2, .int v2)]) X dX5_letDown_1 rfl (by decide) rfl ?_
  obtain ⟨o19, hL, hF⟩ := zb1_e hF
  have L20_x : ∀ (o19' : Ob), o19' = o19 → ZW p l e R s m args below meth c D A 5 0 0 Q (w_X5_forget cA h_t a_t n_t o19') [] 72 [] := by
    intro o19' hz
    cases hz
    cases hF
    exact z_vret X hA hQ hr dX5_letDown_72 (Nat.le_refl _) (Nat.le_refl _)
  obtain ⟨B36, hBB36, hL⟩ := zl2_b hL
  have L20 : ∀ (n : Nat) (o17 : Ob) (k18 : Int32), zl2 B36 n o17 k18 = some o19 → ZW p l e R s m args below meth c D A 5 0 0 Q (w_X5_forget cA h_t a_t n_t o17) [(0, .ref h_t), (1, .int v1), (2, .int v2), (3, .int k18)] 2 [] := by
    intro n
    induction n with
    | zero => intro o17 k18 hL; cases hL
    | succ n ih =>
      intro o17 k18 hL
      obtain ⟨zz21, hF, hL⟩ := zl2_e hL
      rw [hBB36] at hF
      refine z_iload_n X dX5_letDown_2 rfl 3 rfl ?_
      refine z_aload_n X dX5_letDown_3 rfl 0 rfl ?_
      refine z_get (v := .int (o17 5 0)) X k_X5_letDown_101 0 rfl rfl dX5_letDown_4 ?_
      have hF := if_e hF
      refine z_icmp_ge (tgt := 72) X dX5_letDown_7 (by decide) (fun c35 => ?_) (fun c35 => ?_)
      · have hF := hF.1 c35
        cases hF
        have hL := Option.some.inj hL
        refine z_lv (lv' := []) [] rfl ?_
        exact L20_x o17 hL
      · have hF := hF.2 c35
        refine z_iload_n X dX5_letDown_10 rfl 1 rfl ?_
        refine z_aload_n X dX5_letDown_11 rfl 0 rfl ?_
        refine z_get (v := .ref (a_t 4)) X k_X5_letDown_18 0 rfl rfl dX5_letDown_12 ?_
        refine z_iload_n X dX5_letDown_15 rfl 3 rfl ?_
        obtain ⟨g22, hF⟩ := gi_e hF
        refine z_iald X 4 rfl g22 dX5_letDown_16 ?_
        refine z_iadd X dX5_letDown_17 ?_
        obtain ⟨x23, ex23, hF⟩ := nx_e hF
        refine z_nm ex23 ?_
        refine z_istore (lv' := [(4, .int x23), (0, .ref h_t), (1, .int v1), (2, .int v2), (3, .int k18)]) X dX5_letDown_18 (by decide) rfl ?_
        refine z_aload_n X dX5_letDown_20 rfl 1 rfl ?_
        refine z_get (v := .ref (a_t 4)) X k_X5_letDown_18 0 rfl rfl dX5_letDown_21 ?_
        refine z_iload_n X dX5_letDown_24 rfl 4 rfl ?_
        obtain ⟨g24, hF⟩ := gi_e hF
        refine z_iald X 4 rfl g24 dX5_letDown_25 ?_
        refine z_iload_n X dX5_letDown_26 rfl 3 rfl ?_
        refine z_iand X dX5_letDown_27 ?_
        have hF := if_e hF
        refine z_if_eq (tgt := 66) X dX5_letDown_28 (by decide) (fun c34 => ?_) (fun c34 => ?_)
        · have hF := hF.1 c34
          obtain ⟨x25, ex25, hF⟩ := nx_e hF
          refine z_iinc (v := x25) (lv' := [(3, .int x25), (4, .int x23), (0, .ref h_t), (1, .int v1), (2, .int v2)]) (j := 4) X dX5_letDown_66 rfl (by rw [ex25]; rfl) (by decide) rfl ?_
          refine z_goto (tgt := 2) X dX5_letDown_69 (by decide) ?_
          cases hF
          refine z_lv (lv' := [(0, .ref h_t), (1, .int v1), (2, .int v2), (3, .int x25)]) [2, 3, 4, 0] rfl ?_
          exact ih o17 x25 hL
        · have hF := hF.2 c34
          refine z_aload_n X dX5_letDown_31 rfl 1 rfl ?_
          refine z_get (v := .ref (a_t 1)) X k_X5_letDown_35 0 rfl rfl dX5_letDown_32 ?_
          refine z_iload X dX5_letDown_35 0 rfl ?_
          obtain ⟨g26, hF⟩ := gi_e hF
          refine z_iald X 1 rfl g26 dX5_letDown_37 ?_
          refine z_aload_n X dX5_letDown_38 rfl 1 rfl ?_
          refine z_get (v := .ref (a_t 1)) X k_X5_letDown_35 0 rfl rfl dX5_letDown_39 ?_
          refine z_iload X dX5_letDown_42 0 rfl ?_
          refine z_iload_n X dX5_letDown_44 rfl 3 rfl ?_
          refine z_isub X dX5_letDown_45 ?_
          obtain ⟨g27, hF⟩ := gi_e hF
          refine z_iald X 1 rfl g27 dX5_letDown_46 ?_
          have hF := if_e hF
          refine z_icmp_ge (tgt := 66) X dX5_letDown_47 (by decide) (fun c33 => ?_) (fun c33 => ?_)
          · have hF := hF.1 c33
            obtain ⟨x28, ex28, hF⟩ := nx_e hF
            refine z_iinc (v := x28) (lv' := [(3, .int x28), (4, .int x23), (0, .ref h_t), (1, .int v1), (2, .int v2)]) (j := 4) X dX5_letDown_66 rfl (by rw [ex28]; rfl) (by decide) rfl ?_
            refine z_goto (tgt := 2) X dX5_letDown_69 (by decide) ?_
            cases hF
            refine z_lv (lv' := [(0, .ref h_t), (1, .int v1), (2, .int v2), (3, .int x28)]) [2, 3, 4, 0] rfl ?_
            exact ih o17 x28 hL
          · have hF := hF.2 c33
            refine z_aload_n X dX5_letDown_50 rfl 1 rfl ?_
            refine z_get (v := .ref (a_t 1)) X k_X5_letDown_35 0 rfl rfl dX5_letDown_51 ?_
            refine z_iload X dX5_letDown_54 0 rfl ?_
            refine z_iload_n X dX5_letDown_56 rfl 3 rfl ?_
            refine z_isub X dX5_letDown_57 ?_
            refine z_aload_n X dX5_letDown_58 rfl 1 rfl ?_
            refine z_get (v := .ref (a_t 1)) X k_X5_letDown_35 0 rfl rfl dX5_letDown_59 ?_
            refine z_iload X dX5_letDown_62 0 rfl ?_
            obtain ⟨g29, hF⟩ := gi_e hF
            refine z_iald X 1 rfl g29 dX5_letDown_64 ?_
            obtain ⟨g30, hF⟩ := gi_e hF
            obtain ⟨o31, eo31, hF⟩ := nx_e hF
            refine z_iast (ws' := (w_X5_forget cA h_t a_t n_t o31)) X 1 rfl g30 (by rw [eo31]; rfl) dX5_letDown_65 ?_
            obtain ⟨x32, ex32, hF⟩ := nx_e hF
            refine z_iinc (v := x32) (lv' := [(3, .int x32), (4, .int x23), (0, .ref h_t), (1, .int v1), (2, .int v2)]) (j := 4) X dX5_letDown_66 rfl (by rw [ex32]; rfl) (by decide) rfl ?_
            refine z_goto (tgt := 2) X dX5_letDown_69 (by decide) ?_
            cases hF
            refine z_lv (lv' := [(0, .ref h_t), (1, .int v1), (2, .int v2), (3, .int x32)]) [2, 3, 4, 0] rfl ?_
            exact ih o31 x32 hL
  refine z_lv (lv' := [(0, .ref h_t), (1, .int v1), (2, .int v2), (3, .int (0 : Int32))]) [1, 2, 3, 0] rfl ?_
  exact L20 FU o_t (0 : Int32) hL
set_option maxRecDepth 20000 in
theorem h_X5_letUp_X5 : ∀ w ∈ wsX50, w ∈ wsX5_letUp := by decide +kernel
set_option maxRecDepth 20000 in
theorem k_X5_letUp_15 : ZF wsX5_letUp RX5 15 5 3 RX5 TX5 10 := ⟨rfl, by decide, h_X5_letUp_X5, by decide +kernel⟩
set_option maxRecDepth 20000 in
theorem k_X5_letUp_18 : ZF wsX5_letUp RX5 18 5 4 RX5 TX5 10 := ⟨rfl, by decide, h_X5_letUp_X5, by decide +kernel⟩
set_option maxRecDepth 20000 in
theorem k_X5_letUp_35 : ZF wsX5_letUp RX5 35 5 1 RX5 TX5 10 := ⟨rfl, by decide, h_X5_letUp_X5, by decide +kernel⟩
set_option maxRecDepth 20000 in
theorem k_X5_letUp_101 : ZF wsX5_letUp RX5 101 5 5 RX5 TX5 10 := ⟨rfl, by decide, h_X5_letUp_X5, by decide +kernel⟩
set_option maxHeartbeats 8000000 in
set_option maxRecDepth 100000 in
theorem c_X5_letUp (l : Launch) (D : va_G) (cA : Nat → ClassId) (g : Nat → Nat) (sz : Nat) (h_t : Nat) (a_t : Nat → Nat) (n_t : Nat) (o_t : Ob) (v1 : Int32) (v2 : Int32) (o_t' : Ob) (hF : f_X5_letUp n_t o_t v1 v2 = some o_t') : Met l yX5_letUp wsX5_letUp ({ frames := 0, cells := 0, slots := 0, locals := 0 }) (va_Pc [.ref h_t, .int v1, .int v2] (PreW D cA g sz (w_X5_forget cA h_t a_t n_t o_t))) (va_Qv (fun (_ : Unit) => True) (PostW D cA sz (w_X5_forget cA h_t a_t n_t o_t) (w_X5_forget cA h_t a_t n_t o_t')) (va_A (w_X5_forget cA h_t a_t n_t o_t) sz)) 0 0 (va_A (w_X5_forget cA h_t a_t n_t o_t) sz) := by
  refine z_start (cc := cX5_letUp) (maxL := 5) (ret := none) (lv0 := [(0, .ref h_t), (1, .int v1), (2, .int v2)]) (Qc := fun sz => va_Qv (fun (_ : Unit) => True) (PostW D cA sz (w_X5_forget cA h_t a_t n_t o_t) (w_X5_forget cA h_t a_t n_t o_t')) (va_A (w_X5_forget cA h_t a_t n_t o_t) sz)) (free := fun sz => va_A (w_X5_forget cA h_t a_t n_t o_t) sz) (by decide +kernel) rfl rfl (Nat.le_of_ble_eq_true rfl) ?_
  intro p e R s m args below meth c A Q hR hA hQ X hr hin
  unfold f_X5_letUp at hF
  refine z_iconst (v := (0 : Int32)) X dX5_letUp_0 (by decide) ?_
  refine z_istore_n (lv' := [(3, .int (0 : Int32)), (0, .ref h_t), (1, .int v1), (2, .int v2)]) X dX5_letUp_1 rfl (by decide) rfl ?_
  obtain ⟨o21, hL, hF⟩ := zb1_e hF
  have L22_x : ∀ (o21' : Ob), o21' = o21 → ZW p l e R s m args below meth c D A 5 0 0 Q (w_X5_forget cA h_t a_t n_t o21') [] 86 [] := by
    intro o21' hz
    cases hz
    cases hF
    exact z_vret X hA hQ hr dX5_letUp_86 (Nat.le_refl _) (Nat.le_refl _)
  obtain ⟨B40, hBB40, hL⟩ := zl2_b hL
  have L22 : ∀ (n : Nat) (o19 : Ob) (k20 : Int32), zl2 B40 n o19 k20 = some o21 → ZW p l e R s m args below meth c D A 5 0 0 Q (w_X5_forget cA h_t a_t n_t o19) [(0, .ref h_t), (1, .int v1), (2, .int v2), (3, .int k20)] 2 [] := by
    intro n
    induction n with
    | zero => intro o19 k20 hL; cases hL
    | succ n ih =>
      intro o19 k20 hL
      obtain ⟨zz23, hF, hL⟩ := zl2_e hL
      rw [hBB40] at hF
      refine z_iload_n X dX5_letUp_2 rfl 3 rfl ?_
      refine z_aload_n X dX5_letUp_3 rfl 0 rfl ?_
      refine z_get (v := .int (o19 5 0)) X k_X5_letUp_101 0 rfl rfl dX5_letUp_4 ?_
      have hF := if_e hF
      refine z_icmp_ge (tgt := 86) X dX5_letUp_7 (by decide) (fun c39 => ?_) (fun c39 => ?_)
      · have hF := hF.1 c39
        cases hF
        have hL := Option.some.inj hL
        refine z_lv (lv' := []) [] rfl ?_
        exact L22_x o19 hL
      · have hF := hF.2 c39
        refine z_iload_n X dX5_letUp_10 rfl 1 rfl ?_
        refine z_aload_n X dX5_letUp_11 rfl 0 rfl ?_
        refine z_get (v := .ref (a_t 4)) X k_X5_letUp_18 0 rfl rfl dX5_letUp_12 ?_
        refine z_iload_n X dX5_letUp_15 rfl 3 rfl ?_
        obtain ⟨g24, hF⟩ := gi_e hF
        refine z_iald X 4 rfl g24 dX5_letUp_16 ?_
        refine z_iadd X dX5_letUp_17 ?_
        obtain ⟨x25, ex25, hF⟩ := nx_e hF
        refine z_nm ex25 ?_
        refine z_istore (lv' := [(4, .int x25), (0, .ref h_t), (1, .int v1), (2, .int v2), (3, .int k20)]) X dX5_letUp_18 (by decide) rfl ?_
        refine z_aload_n X dX5_letUp_20 rfl 1 rfl ?_
        refine z_get (v := .ref (a_t 4)) X k_X5_letUp_18 0 rfl rfl dX5_letUp_21 ?_
        refine z_iload_n X dX5_letUp_24 rfl 4 rfl ?_
        obtain ⟨g26, hF⟩ := gi_e hF
        refine z_iald X 4 rfl g26 dX5_letUp_25 ?_
        refine z_iload_n X dX5_letUp_26 rfl 3 rfl ?_
        refine z_iand X dX5_letUp_27 ?_
        have hF := if_e hF
        refine z_if_eq (tgt := 80) X dX5_letUp_28 (by decide) (fun c38 => ?_) (fun c38 => ?_)
        · have hF := hF.1 c38
          obtain ⟨x27, ex27, hF⟩ := nx_e hF
          refine z_iinc (v := x27) (lv' := [(3, .int x27), (4, .int x25), (0, .ref h_t), (1, .int v1), (2, .int v2)]) (j := 4) X dX5_letUp_80 rfl (by rw [ex27]; rfl) (by decide) rfl ?_
          refine z_goto (tgt := 2) X dX5_letUp_83 (by decide) ?_
          cases hF
          refine z_lv (lv' := [(0, .ref h_t), (1, .int v1), (2, .int v2), (3, .int x27)]) [2, 3, 4, 0] rfl ?_
          exact ih o19 x27 hL
        · have hF := hF.2 c38
          refine z_aload_n X dX5_letUp_31 rfl 1 rfl ?_
          refine z_get (v := .ref (a_t 1)) X k_X5_letUp_35 0 rfl rfl dX5_letUp_32 ?_
          refine z_iload X dX5_letUp_35 0 rfl ?_
          refine z_iload_n X dX5_letUp_37 rfl 3 rfl ?_
          refine z_isub X dX5_letUp_38 ?_
          obtain ⟨g28, hF⟩ := gi_e hF
          refine z_iald X 1 rfl g28 dX5_letUp_39 ?_
          refine z_aload_n X dX5_letUp_40 rfl 1 rfl ?_
          refine z_get (v := .ref (a_t 3)) X k_X5_letUp_15 0 rfl rfl dX5_letUp_41 ?_
          refine z_iload_n X dX5_letUp_44 rfl 3 rfl ?_
          obtain ⟨g29, hF⟩ := gi_e hF
          refine z_iald X 3 rfl g29 dX5_letUp_45 ?_
          refine z_iadd X dX5_letUp_46 ?_
          refine z_aload_n X dX5_letUp_47 rfl 1 rfl ?_
          refine z_get (v := .ref (a_t 1)) X k_X5_letUp_35 0 rfl rfl dX5_letUp_48 ?_
          refine z_iload X dX5_letUp_51 0 rfl ?_
          obtain ⟨g30, hF⟩ := gi_e hF
          refine z_iald X 1 rfl g30 dX5_letUp_53 ?_
          have hF := if_e hF
          refine z_icmp_ge (tgt := 80) X dX5_letUp_54 (by decide) (fun c37 => ?_) (fun c37 => ?_)
          · have hF := hF.1 c37
            obtain ⟨x31, ex31, hF⟩ := nx_e hF
            refine z_iinc (v := x31) (lv' := [(3, .int x31), (4, .int x25), (0, .ref h_t), (1, .int v1), (2, .int v2)]) (j := 4) X dX5_letUp_80 rfl (by rw [ex31]; rfl) (by decide) rfl ?_
            refine z_goto (tgt := 2) X dX5_letUp_83 (by decide) ?_
            cases hF
            refine z_lv (lv' := [(0, .ref h_t), (1, .int v1), (2, .int v2), (3, .int x31)]) [2, 3, 4, 0] rfl ?_
            exact ih o19 x31 hL
          · have hF := hF.2 c37
            refine z_aload_n X dX5_letUp_57 rfl 1 rfl ?_
            refine z_get (v := .ref (a_t 1)) X k_X5_letUp_35 0 rfl rfl dX5_letUp_58 ?_
            refine z_iload X dX5_letUp_61 0 rfl ?_
            refine z_aload_n X dX5_letUp_63 rfl 1 rfl ?_
            refine z_get (v := .ref (a_t 1)) X k_X5_letUp_35 0 rfl rfl dX5_letUp_64 ?_
            refine z_iload X dX5_letUp_67 0 rfl ?_
            refine z_iload_n X dX5_letUp_69 rfl 3 rfl ?_
            refine z_isub X dX5_letUp_70 ?_
            obtain ⟨g32, hF⟩ := gi_e hF
            refine z_iald X 1 rfl g32 dX5_letUp_71 ?_
            refine z_aload_n X dX5_letUp_72 rfl 1 rfl ?_
            refine z_get (v := .ref (a_t 3)) X k_X5_letUp_15 0 rfl rfl dX5_letUp_73 ?_
            refine z_iload_n X dX5_letUp_76 rfl 3 rfl ?_
            obtain ⟨g33, hF⟩ := gi_e hF
            refine z_iald X 3 rfl g33 dX5_letUp_77 ?_
            refine z_iadd X dX5_letUp_78 ?_
            obtain ⟨g34, hF⟩ := gi_e hF
            obtain ⟨o35, eo35, hF⟩ := nx_e hF
            refine z_iast (ws' := (w_X5_forget cA h_t a_t n_t o35)) X 1 rfl g34 (by rw [eo35]; rfl) dX5_letUp_79 ?_
            obtain ⟨x36, ex36, hF⟩ := nx_e hF
            refine z_iinc (v := x36) (lv' := [(3, .int x36), (4, .int x25), (0, .ref h_t), (1, .int v1), (2, .int v2)]) (j := 4) X dX5_letUp_80 rfl (by rw [ex36]; rfl) (by decide) rfl ?_
            refine z_goto (tgt := 2) X dX5_letUp_83 (by decide) ?_
            cases hF
            refine z_lv (lv' := [(0, .ref h_t), (1, .int v1), (2, .int v2), (3, .int x36)]) [2, 3, 4, 0] rfl ?_
            exact ih o35 x36 hL
  refine z_lv (lv' := [(0, .ref h_t), (1, .int v1), (2, .int v2), (3, .int (0 : Int32))]) [1, 2, 3, 0] rfl ?_
  exact L22 FU o_t (0 : Int32) hL
set_option maxRecDepth 20000 in
theorem h_X5_moveAny_X5 : ∀ w ∈ wsX50, w ∈ wsX5_moveAny := by decide +kernel
set_option maxRecDepth 20000 in
theorem k_X5_moveAny_18 : ZF wsX5_moveAny RX5 18 5 4 RX5 TX5 10 := ⟨rfl, by decide, h_X5_moveAny_X5, by decide +kernel⟩
set_option maxRecDepth 20000 in
theorem k_X5_moveAny_35 : ZF wsX5_moveAny RX5 35 5 1 RX5 TX5 10 := ⟨rfl, by decide, h_X5_moveAny_X5, by decide +kernel⟩
set_option maxRecDepth 20000 in
theorem k_X5_moveAny_91 : ZF wsX5_moveAny RX5 91 5 6 RX5 TX5 10 := ⟨rfl, by decide, h_X5_moveAny_X5, by decide +kernel⟩
set_option maxRecDepth 20000 in
theorem k_X5_moveAny_101 : ZF wsX5_moveAny RX5 101 5 5 RX5 TX5 10 := ⟨rfl, by decide, h_X5_moveAny_X5, by decide +kernel⟩
set_option maxHeartbeats 8000000 in
set_option maxRecDepth 100000 in
theorem c_X5_moveAny (l : Launch) (D : va_G) (cA : Nat → ClassId) (g : Nat → Nat) (sz : Nat) (h_t : Nat) (a_t : Nat → Nat) (n_t : Nat) (o_t : Ob) (v1 : Int32) (v2 : Int32) (o_t' : Ob) (hF : f_X5_moveAny n_t o_t v1 v2 = some o_t') : Met l yX5_moveAny wsX5_moveAny ({ frames := 1, cells := 0, slots := 0, locals := 24 }) (va_Pc [.ref h_t, .int v1, .int v2] (PreW D cA g sz (w_X5_forget cA h_t a_t n_t o_t))) (va_Qv (fun (_ : Unit) => True) (PostW D cA sz (w_X5_forget cA h_t a_t n_t o_t) (w_X5_forget cA h_t a_t n_t o_t')) (va_A (w_X5_forget cA h_t a_t n_t o_t) sz)) 0 0 (va_A (w_X5_forget cA h_t a_t n_t o_t) sz) := by
  refine z_start (cc := cX5_moveAny) (maxL := 4) (ret := none) (lv0 := [(0, .ref h_t), (1, .int v1), (2, .int v2)]) (Qc := fun sz => va_Qv (fun (_ : Unit) => True) (PostW D cA sz (w_X5_forget cA h_t a_t n_t o_t) (w_X5_forget cA h_t a_t n_t o_t')) (va_A (w_X5_forget cA h_t a_t n_t o_t) sz)) (free := fun sz => va_A (w_X5_forget cA h_t a_t n_t o_t) sz) (by decide +kernel) rfl rfl (Nat.le_of_ble_eq_true rfl) ?_
  intro p e R s m args below meth c A Q hR hA hQ X hr hin
  unfold f_X5_moveAny at hF
  refine z_iconst (v := (0 : Int32)) X dX5_moveAny_0 (by decide) ?_
  refine z_istore_n (lv' := [(3, .int (0 : Int32)), (0, .ref h_t), (1, .int v1), (2, .int v2)]) X dX5_moveAny_1 rfl (by decide) rfl ?_
  obtain ⟨o12, hL, hF⟩ := zb1_e hF
  have L45_x : ∀ (o12' : Ob), o12' = o12 → ZW p l e R s m args below meth c D A 4 0 0 Q (w_X5_forget cA h_t a_t n_t o12') [(0, .ref h_t), (2, .int v2)] 42 [] := by
    intro o12' hz
    cases hz
    refine z_iconst (v := (0 : Int32)) X dX5_moveAny_42 (by decide) ?_
    refine z_istore_n (lv' := [(3, .int (0 : Int32)), (0, .ref h_t), (2, .int v2)]) X dX5_moveAny_43 rfl (by decide) rfl ?_
    obtain ⟨o21, hL, hF⟩ := zb1_e hF
    have L38_x : ∀ (o21' : Ob), o21' = o21 → ZW p l e R s m args below meth c D A 4 0 0 Q (w_X5_forget cA h_t a_t n_t o21') [(0, .ref h_t), (2, .int v2)] 66 [] := by
      intro o21' hz
      cases hz
      refine z_iconst (v := (0 : Int32)) X dX5_moveAny_66 (by decide) ?_
      refine z_istore_n (lv' := [(3, .int (0 : Int32)), (0, .ref h_t), (2, .int v2)]) X dX5_moveAny_67 rfl (by decide) rfl ?_
      obtain ⟨o30, hL, hF⟩ := zb1_e hF
      have L31_x : ∀ (o30' : Ob), o30' = o30 → ZW p l e R s m args below meth c D A 4 0 0 Q (w_X5_forget cA h_t a_t n_t o30') [] 90 [] := by
        intro o30' hz
        cases hz
        cases hF
        exact z_vret X hA hQ hr dX5_moveAny_90 (Nat.le_refl _) (Nat.le_refl _)
      obtain ⟨B37, hBB37, hL⟩ := zl2_b hL
      have L31 : ∀ (n : Nat) (o28 : Ob) (k29 : Int32), zl2 B37 n o28 k29 = some o30 → ZW p l e R s m args below meth c D A 4 0 0 Q (w_X5_forget cA h_t a_t n_t o28) [(0, .ref h_t), (2, .int v2), (3, .int k29)] 68 [] := by
        intro n
        induction n with
        | zero => intro o28 k29 hL; cases hL
        | succ n ih =>
          intro o28 k29 hL
          obtain ⟨zz32, hF, hL⟩ := zl2_e hL
          rw [hBB37] at hF
          refine z_iload_n X dX5_moveAny_68 rfl 2 rfl ?_
          refine z_aload_n X dX5_moveAny_69 rfl 0 rfl ?_
          refine z_get (v := .int (o28 6 0)) X k_X5_moveAny_91 0 rfl rfl dX5_moveAny_70 ?_
          have hF := if_e hF
          refine z_icmp_ge (tgt := 90) X dX5_moveAny_73 (by decide) (fun c36 => ?_) (fun c36 => ?_)
          · have hF := hF.1 c36
            cases hF
            have hL := Option.some.inj hL
            refine z_lv (lv' := []) [] rfl ?_
            exact L31_x o28 hL
          · have hF := hF.2 c36
            refine z_aload_n X dX5_moveAny_76 rfl 0 rfl ?_
            refine z_iload_n X dX5_moveAny_77 rfl 1 rfl ?_
            refine z_iconst (v := (1 : Int32)) X dX5_moveAny_78 (by decide) ?_
            refine z_iload_n X dX5_moveAny_79 rfl 2 rfl ?_
            refine z_ishl X dX5_moveAny_80 ?_
            obtain ⟨o33, hc34, hF⟩ := zb1_e hF
            refine z_Vv (As := [.int v2, .int ((1 : Int32) <<< (k29 &&& 31))]) (rest := []) (wc := (w_X5_forget cA h_t a_t n_t o28)) (wc' := (w_X5_forget cA h_t a_t n_t o33)) (ws' := (w_X5_forget cA h_t a_t n_t o33)) X (cwV 2 X.2.2.2.2.1 gX5_moveAny_X5_letUp rfl rfl rfl (by decide +kernel) (by rw [hR]; exact ⟨Nat.le_of_ble_eq_true rfl, Nat.le_of_ble_eq_true rfl⟩)) (fun sz => c_X5_letUp l D cA g sz h_t a_t n_t o28 v2 ((1 : Int32) <<< (k29 &&& 31)) o33 hc34) [0, 1, 2, 3, 4, 5] [1000, 1001, 1002, 1003, 1004, 1005] rfl (by decide) rfl (by decide) rfl rfl rfl rfl rfl rfl (Nat.le_of_ble_eq_true rfl) dX5_moveAny_81 ⟨Nat.zero_le _, Nat.zero_le _⟩ ?_
            obtain ⟨x35, ex35, hF⟩ := nx_e hF
            refine z_iinc (v := x35) (lv' := [(3, .int x35), (0, .ref h_t), (2, .int v2)]) (j := 2) X dX5_moveAny_84 rfl (by rw [ex35]; rfl) (by decide) rfl ?_
            refine z_goto (tgt := 68) X dX5_moveAny_87 (by decide) ?_
            cases hF
            refine z_lv (lv' := [(0, .ref h_t), (2, .int v2), (3, .int x35)]) [1, 2, 0] rfl ?_
            exact ih o33 x35 hL
      refine z_lv (lv' := [(0, .ref h_t), (2, .int v2), (3, .int (0 : Int32))]) [1, 2, 0] rfl ?_
      exact L31 FU o21 (0 : Int32) hL
    obtain ⟨B44, hBB44, hL⟩ := zl2_b hL
    have L38 : ∀ (n : Nat) (o19 : Ob) (k20 : Int32), zl2 B44 n o19 k20 = some o21 → ZW p l e R s m args below meth c D A 4 0 0 Q (w_X5_forget cA h_t a_t n_t o19) [(0, .ref h_t), (2, .int v2), (3, .int k20)] 44 [] := by
      intro n
      induction n with
      | zero => intro o19 k20 hL; cases hL
      | succ n ih =>
        intro o19 k20 hL
        obtain ⟨zz39, hF, hL⟩ := zl2_e hL
        rw [hBB44] at hF
        refine z_iload_n X dX5_moveAny_44 rfl 2 rfl ?_
        refine z_aload_n X dX5_moveAny_45 rfl 0 rfl ?_
        refine z_get (v := .int (o19 6 0)) X k_X5_moveAny_91 0 rfl rfl dX5_moveAny_46 ?_
        have hF := if_e hF
        refine z_icmp_ge (tgt := 66) X dX5_moveAny_49 (by decide) (fun c43 => ?_) (fun c43 => ?_)
        · have hF := hF.1 c43
          cases hF
          have hL := Option.some.inj hL
          refine z_lv (lv' := [(0, .ref h_t), (2, .int v2)]) [0, 1] rfl ?_
          exact L38_x o19 hL
        · have hF := hF.2 c43
          refine z_aload_n X dX5_moveAny_52 rfl 0 rfl ?_
          refine z_iload_n X dX5_moveAny_53 rfl 1 rfl ?_
          refine z_iconst (v := (1 : Int32)) X dX5_moveAny_54 (by decide) ?_
          refine z_iload_n X dX5_moveAny_55 rfl 2 rfl ?_
          refine z_ishl X dX5_moveAny_56 ?_
          obtain ⟨o40, hc41, hF⟩ := zb1_e hF
          refine z_Vv (As := [.int v2, .int ((1 : Int32) <<< (k20 &&& 31))]) (rest := []) (wc := (w_X5_forget cA h_t a_t n_t o19)) (wc' := (w_X5_forget cA h_t a_t n_t o40)) (ws' := (w_X5_forget cA h_t a_t n_t o40)) X (cwV 2 X.2.2.2.2.1 gX5_moveAny_X5_letDown rfl rfl rfl (by decide +kernel) (by rw [hR]; exact ⟨Nat.le_of_ble_eq_true rfl, Nat.le_of_ble_eq_true rfl⟩)) (fun sz => c_X5_letDown l D cA g sz h_t a_t n_t o19 v2 ((1 : Int32) <<< (k20 &&& 31)) o40 hc41) [0, 1, 2, 3, 4, 5] [1000, 1001, 1002, 1003, 1004, 1005] rfl (by decide) rfl (by decide) rfl rfl rfl rfl rfl rfl (Nat.le_of_ble_eq_true rfl) dX5_moveAny_57 ⟨Nat.zero_le _, Nat.zero_le _⟩ ?_
          obtain ⟨x42, ex42, hF⟩ := nx_e hF
          refine z_iinc (v := x42) (lv' := [(3, .int x42), (0, .ref h_t), (2, .int v2)]) (j := 2) X dX5_moveAny_60 rfl (by rw [ex42]; rfl) (by decide) rfl ?_
          refine z_goto (tgt := 44) X dX5_moveAny_63 (by decide) ?_
          cases hF
          refine z_lv (lv' := [(0, .ref h_t), (2, .int v2), (3, .int x42)]) [1, 2, 0] rfl ?_
          exact ih o40 x42 hL
    refine z_lv (lv' := [(0, .ref h_t), (2, .int v2), (3, .int (0 : Int32))]) [1, 2, 0] rfl ?_
    exact L38 FU o12 (0 : Int32) hL
  obtain ⟨B54, hBB54, hL⟩ := zl2_b hL
  have L45 : ∀ (n : Nat) (o10 : Ob) (k11 : Int32), zl2 B54 n o10 k11 = some o12 → ZW p l e R s m args below meth c D A 4 0 0 Q (w_X5_forget cA h_t a_t n_t o10) [(0, .ref h_t), (1, .int v1), (2, .int v2), (3, .int k11)] 2 [] := by
    intro n
    induction n with
    | zero => intro o10 k11 hL; cases hL
    | succ n ih =>
      intro o10 k11 hL
      obtain ⟨zz46, hF, hL⟩ := zl2_e hL
      rw [hBB54] at hF
      refine z_iload_n X dX5_moveAny_2 rfl 3 rfl ?_
      refine z_aload_n X dX5_moveAny_3 rfl 0 rfl ?_
      refine z_get (v := .int (o10 5 0)) X k_X5_moveAny_101 0 rfl rfl dX5_moveAny_4 ?_
      have hF := if_e hF
      refine z_icmp_ge (tgt := 42) X dX5_moveAny_7 (by decide) (fun c53 => ?_) (fun c53 => ?_)
      · have hF := hF.1 c53
        cases hF
        have hL := Option.some.inj hL
        refine z_lv (lv' := [(0, .ref h_t), (2, .int v2)]) [0, 2] rfl ?_
        exact L45_x o10 hL
      · have hF := hF.2 c53
        refine z_aload_n X dX5_moveAny_10 rfl 0 rfl ?_
        refine z_get (v := .ref (a_t 1)) X k_X5_moveAny_35 0 rfl rfl dX5_moveAny_11 ?_
        refine z_iload_n X dX5_moveAny_14 rfl 2 rfl ?_
        refine z_aload_n X dX5_moveAny_15 rfl 0 rfl ?_
        refine z_get (v := .ref (a_t 4)) X k_X5_moveAny_18 0 rfl rfl dX5_moveAny_16 ?_
        refine z_iload_n X dX5_moveAny_19 rfl 3 rfl ?_
        obtain ⟨g47, hF⟩ := gi_e hF
        refine z_iald X 4 rfl g47 dX5_moveAny_20 ?_
        refine z_iadd X dX5_moveAny_21 ?_
        refine z_aload_n X dX5_moveAny_22 rfl 0 rfl ?_
        refine z_get (v := .ref (a_t 1)) X k_X5_moveAny_35 0 rfl rfl dX5_moveAny_23 ?_
        refine z_iload_n X dX5_moveAny_26 rfl 1 rfl ?_
        refine z_aload_n X dX5_moveAny_27 rfl 0 rfl ?_
        refine z_get (v := .ref (a_t 4)) X k_X5_moveAny_18 0 rfl rfl dX5_moveAny_28 ?_
        refine z_iload_n X dX5_moveAny_31 rfl 3 rfl ?_
        obtain ⟨g48, hF⟩ := gi_e hF
        refine z_iald X 4 rfl g48 dX5_moveAny_32 ?_
        refine z_iadd X dX5_moveAny_33 ?_
        obtain ⟨g49, hF⟩ := gi_e hF
        refine z_iald X 1 rfl g49 dX5_moveAny_34 ?_
        obtain ⟨g50, hF⟩ := gi_e hF
        obtain ⟨o51, eo51, hF⟩ := nx_e hF
        refine z_iast (ws' := (w_X5_forget cA h_t a_t n_t o51)) X 1 rfl g50 (by rw [eo51]; rfl) dX5_moveAny_35 ?_
        obtain ⟨x52, ex52, hF⟩ := nx_e hF
        refine z_iinc (v := x52) (lv' := [(3, .int x52), (0, .ref h_t), (1, .int v1), (2, .int v2)]) (j := 3) X dX5_moveAny_36 rfl (by rw [ex52]; rfl) (by decide) rfl ?_
        refine z_goto (tgt := 2) X dX5_moveAny_39 (by decide) ?_
        cases hF
        refine z_lv (lv' := [(0, .ref h_t), (1, .int v1), (2, .int v2), (3, .int x52)]) [1, 2, 3, 0] rfl ?_
        exact ih o51 x52 hL
  refine z_lv (lv' := [(0, .ref h_t), (1, .int v1), (2, .int v2), (3, .int (0 : Int32))]) [1, 2, 3, 0] rfl ?_
  exact L45 FU o_t (0 : Int32) hL
set_option maxRecDepth 20000 in
theorem h_X5_pay_X5 : ∀ w ∈ wsX50, w ∈ wsX5_pay := by decide +kernel
set_option maxRecDepth 20000 in
theorem k_X5_pay_18 : ZF wsX5_pay RX5 18 5 4 RX5 TX5 10 := ⟨rfl, by decide, h_X5_pay_X5, by decide +kernel⟩
set_option maxRecDepth 20000 in
theorem k_X5_pay_35 : ZF wsX5_pay RX5 35 5 1 RX5 TX5 10 := ⟨rfl, by decide, h_X5_pay_X5, by decide +kernel⟩
set_option maxRecDepth 20000 in
theorem k_X5_pay_101 : ZF wsX5_pay RX5 101 5 5 RX5 TX5 10 := ⟨rfl, by decide, h_X5_pay_X5, by decide +kernel⟩
set_option maxRecDepth 20000 in
theorem k_X5_pay_c82 : Cond.constant RX5 82 (1000000) ∈ wsX5_pay := by decide +kernel
set_option maxHeartbeats 8000000 in
set_option maxRecDepth 100000 in
theorem c_X5_pay (l : Launch) (D : va_G) (cA : Nat → ClassId) (g : Nat → Nat) (sz : Nat) (h_t : Nat) (a_t : Nat → Nat) (n_t : Nat) (o_t : Ob) (v1 : Int32) (v2 : Int32) (v3 : Int32) (v4 : Int32) (o_t' : Ob) (hF : f_X5_pay n_t o_t v1 v2 v3 v4 = some o_t') : Met l yX5_pay wsX5_pay ({ frames := 0, cells := 0, slots := 0, locals := 0 }) (va_Pc [.ref h_t, .int v1, .int v2, .int v3, .int v4] (PreW D cA g sz (w_X5_forget cA h_t a_t n_t o_t))) (va_Qv (fun (_ : Unit) => True) (PostW D cA sz (w_X5_forget cA h_t a_t n_t o_t) (w_X5_forget cA h_t a_t n_t o_t')) (va_A (w_X5_forget cA h_t a_t n_t o_t) sz)) 0 0 (va_A (w_X5_forget cA h_t a_t n_t o_t) sz) := by
  refine z_start (cc := cX5_pay) (maxL := 9) (ret := none) (lv0 := [(0, .ref h_t), (1, .int v1), (2, .int v2), (3, .int v3), (4, .int v4)]) (Qc := fun sz => va_Qv (fun (_ : Unit) => True) (PostW D cA sz (w_X5_forget cA h_t a_t n_t o_t) (w_X5_forget cA h_t a_t n_t o_t')) (va_A (w_X5_forget cA h_t a_t n_t o_t) sz)) (free := fun sz => va_A (w_X5_forget cA h_t a_t n_t o_t) sz) (by decide +kernel) rfl rfl (Nat.le_of_ble_eq_true rfl) ?_
  intro p e R s m args below meth c A Q hR hA hQ X hr hin
  unfold f_X5_pay at hF
  refine z_iconst (v := (0 : Int32)) X dX5_pay_0 (by decide) ?_
  refine z_istore (lv' := [(5, .int (0 : Int32)), (0, .ref h_t), (1, .int v1), (2, .int v2), (3, .int v3), (4, .int v4)]) X dX5_pay_1 (by decide) rfl ?_
  obtain ⟨o32, hL, hF⟩ := zb1_e hF
  have L33_x : ∀ (o32' : Ob), o32' = o32 → ZW p l e R s m args below meth c D A 9 0 0 Q (w_X5_forget cA h_t a_t n_t o32') [] 96 [] := by
    intro o32' hz
    cases hz
    cases hF
    exact z_vret X hA hQ hr dX5_pay_96 (Nat.le_refl _) (Nat.le_refl _)
  obtain ⟨B62, hBB62, hL⟩ := zl2_b hL
  have L33 : ∀ (n : Nat) (o30 : Ob) (k31 : Int32), zl2 B62 n o30 k31 = some o32 → ZW p l e R s m args below meth c D A 9 0 0 Q (w_X5_forget cA h_t a_t n_t o30) [(0, .ref h_t), (1, .int v1), (2, .int v2), (3, .int v3), (4, .int v4), (5, .int k31)] 3 [] := by
    intro n
    induction n with
    | zero => intro o30 k31 hL; cases hL
    | succ n ih =>
      intro o30 k31 hL
      obtain ⟨zz34, hF, hL⟩ := zl2_e hL
      rw [hBB62] at hF
      refine z_iload X dX5_pay_3 5 rfl ?_
      refine z_aload_n X dX5_pay_5 rfl 0 rfl ?_
      refine z_get (v := .int (o30 5 0)) X k_X5_pay_101 0 rfl rfl dX5_pay_6 ?_
      have hF := if_e hF
      refine z_icmp_ge (tgt := 96) X dX5_pay_9 (by decide) (fun c61 => ?_) (fun c61 => ?_)
      · have hF := hF.1 c61
        cases hF
        have hL := Option.some.inj hL
        refine z_lv (lv' := []) [] rfl ?_
        exact L33_x o30 hL
      · have hF := hF.2 c61
        refine z_aload_n X dX5_pay_12 rfl 0 rfl ?_
        refine z_get (v := .ref (a_t 4)) X k_X5_pay_18 0 rfl rfl dX5_pay_13 ?_
        refine z_iload X dX5_pay_16 5 rfl ?_
        obtain ⟨g35, hF⟩ := gi_e hF
        refine z_iald X 4 rfl g35 dX5_pay_18 ?_
        obtain ⟨x36, ex36, hF⟩ := nx_e hF
        refine z_nm ex36 ?_
        refine z_istore (lv' := [(6, .int x36), (0, .ref h_t), (1, .int v1), (2, .int v2), (3, .int v3), (4, .int v4), (5, .int k31)]) X dX5_pay_19 (by decide) rfl ?_
        refine z_aload_n X dX5_pay_21 rfl 1 rfl ?_
        refine z_get (v := .ref (a_t 1)) X k_X5_pay_35 0 rfl rfl dX5_pay_22 ?_
        refine z_iload_n X dX5_pay_25 rfl 2 rfl ?_
        refine z_iload X dX5_pay_26 0 rfl ?_
        refine z_iadd X dX5_pay_28 ?_
        obtain ⟨g37, hF⟩ := gi_e hF
        refine z_iald X 1 rfl g37 dX5_pay_29 ?_
        refine z_iload X dX5_pay_30 0 rfl ?_
        refine z_iload_n X dX5_pay_32 rfl 3 rfl ?_
        refine z_iand X dX5_pay_33 ?_
        obtain ⟨K40, eK40, hF⟩ := nx_e hF
        have K40_l : ∀ (j39 : Int32), K40 j39 = some zz34 → ZW p l e R s m args below meth c D A 9 0 0 Q (w_X5_forget cA h_t a_t n_t o30) [(0, .ref h_t), (1, .int v1), (2, .int v2), (3, .int v3), (4, .int v4), (5, .int k31), (6, .int x36)] 42 [.int j39, .int (o30 1 (Int32.toNatClampNeg (v1 + x36)))] := by
          intro j39 hF
          rw [eK40] at hF
          refine z_iadd X dX5_pay_42 ?_
          obtain ⟨x41, ex41, hF⟩ := nx_e hF
          refine z_nm ex41 ?_
          refine z_istore (lv' := [(7, .int x41), (0, .ref h_t), (1, .int v1), (2, .int v2), (3, .int v3), (4, .int v4), (5, .int k31), (6, .int x36)]) X dX5_pay_43 (by decide) rfl ?_
          refine z_iload X dX5_pay_45 7 rfl ?_
          refine z_iload X dX5_pay_47 5 rfl ?_
          refine z_iand X dX5_pay_49 ?_
          refine z_iload X dX5_pay_50 5 rfl ?_
          obtain ⟨K44, eK44, hF⟩ := nx_e hF
          have K44_l : ∀ (j43 : Int32), K44 j43 = some zz34 → ZW p l e R s m args below meth c D A 9 0 0 Q (w_X5_forget cA h_t a_t n_t o30) [(0, .ref h_t), (1, .int v1), (2, .int v2), (3, .int v3), (4, .int v4), (5, .int k31), (6, .int x36), (7, .int x41)] 60 [.int j43] := by
            intro j43 hF
            rw [eK44] at hF
            refine z_istore (lv' := [(8, .int j43), (0, .ref h_t), (1, .int v1), (2, .int v2), (3, .int v3), (4, .int v4), (5, .int k31), (6, .int x36), (7, .int x41)]) X dX5_pay_60 (by decide) rfl ?_
            refine z_aload_n X dX5_pay_62 rfl 1 rfl ?_
            refine z_get (v := .ref (a_t 1)) X k_X5_pay_35 0 rfl rfl dX5_pay_63 ?_
            refine z_iload_n X dX5_pay_66 rfl 2 rfl ?_
            refine z_iload X dX5_pay_67 7 rfl ?_
            refine z_iadd X dX5_pay_69 ?_
            refine z_iload X dX5_pay_70 0 rfl ?_
            obtain ⟨K50, eK50, hF⟩ := nx_e hF
            have K50_l : ∀ (_ : Unit), K50 () = some zz34 → ZW p l e R s m args below meth c D A 9 0 0 Q (w_X5_forget cA h_t a_t n_t o30) [(0, .ref h_t), (1, .int v1), (2, .int v2), (3, .int v3), (4, .int v4), (5, .int k31)] 82 [.int (v1 + x36), .ref (a_t 1)] := by
              intro _ hF
              rw [eK50] at hF
              refine z_ldc X k_X5_pay_c82 dX5_pay_82 ?_
              refine z_goto (tgt := 89) X dX5_pay_84 (by decide) ?_
              obtain ⟨g51, hF⟩ := gi_e hF
              obtain ⟨o52, eo52, hF⟩ := nx_e hF
              refine z_iast (ws' := (w_X5_forget cA h_t a_t n_t o52)) X 1 rfl g51 (by rw [eo52]; rfl) dX5_pay_89 ?_
              obtain ⟨x53, ex53, hF⟩ := nx_e hF
              refine z_iinc (v := x53) (lv' := [(5, .int x53), (0, .ref h_t), (1, .int v1), (2, .int v2), (3, .int v3), (4, .int v4)]) (j := 5) X dX5_pay_90 rfl (by rw [ex53]; rfl) (by decide) rfl ?_
              refine z_goto (tgt := 3) X dX5_pay_93 (by decide) ?_
              cases hF
              refine z_lv (lv' := [(0, .ref h_t), (1, .int v1), (2, .int v2), (3, .int v3), (4, .int v4), (5, .int x53)]) [1, 2, 3, 4, 5, 0] rfl ?_
              exact ih o52 x53 hL
            have hF := if_e hF
            refine z_if_ne (tgt := 82) X dX5_pay_72 (by decide) (fun c58 => ?_) (fun c58 => ?_)
            · have hF := hF.2 c58
              refine z_lv (lv' := [(0, .ref h_t), (1, .int v1), (2, .int v2), (3, .int v3), (4, .int v4), (5, .int k31)]) [1, 2, 3, 4, 5, 6] rfl ?_
              exact K50_l () hF
            · have hF := hF.1 c58
              refine z_iload X dX5_pay_75 8 rfl ?_
              refine z_ldc X k_X5_pay_c82 dX5_pay_77 ?_
              have hF := if_e hF
              refine z_icmp_le (tgt := 87) X dX5_pay_79 (by decide) (fun c57 => ?_) (fun c57 => ?_)
              · have hF := hF.1 c57
                refine z_iload X dX5_pay_87 8 rfl ?_
                obtain ⟨g54, hF⟩ := gi_e hF
                obtain ⟨o55, eo55, hF⟩ := nx_e hF
                refine z_iast (ws' := (w_X5_forget cA h_t a_t n_t o55)) X 1 rfl g54 (by rw [eo55]; rfl) dX5_pay_89 ?_
                obtain ⟨x56, ex56, hF⟩ := nx_e hF
                refine z_iinc (v := x56) (lv' := [(5, .int x56), (8, .int j43), (0, .ref h_t), (1, .int v1), (2, .int v2), (3, .int v3), (4, .int v4), (6, .int x36), (7, .int x41)]) (j := 6) X dX5_pay_90 rfl (by rw [ex56]; rfl) (by decide) rfl ?_
                refine z_goto (tgt := 3) X dX5_pay_93 (by decide) ?_
                cases hF
                refine z_lv (lv' := [(0, .ref h_t), (1, .int v1), (2, .int v2), (3, .int v3), (4, .int v4), (5, .int x56)]) [2, 3, 4, 5, 6, 0] rfl ?_
                exact ih o55 x56 hL
              · have hF := hF.2 c57
                refine z_lv (lv' := [(0, .ref h_t), (1, .int v1), (2, .int v2), (3, .int v3), (4, .int v4), (5, .int k31)]) [1, 2, 3, 4, 5, 6] rfl ?_
                exact K50_l () hF
          have hF := if_e hF
          refine z_icmp_eq (tgt := 59) X dX5_pay_52 (by decide) (fun c59 => ?_) (fun c59 => ?_)
          · have hF := hF.1 c59
            refine z_iconst (v := (0 : Int32)) X dX5_pay_59 (by decide) ?_
            refine z_lv (lv' := [(0, .ref h_t), (1, .int v1), (2, .int v2), (3, .int v3), (4, .int v4), (5, .int k31), (6, .int x36), (7, .int x41)]) [1, 2, 3, 4, 5, 6, 7, 0] rfl ?_
            exact K44_l (0 : Int32) hF
          · have hF := hF.2 c59
            refine z_iconst (v := (1 : Int32)) X dX5_pay_55 (by decide) ?_
            refine z_goto (tgt := 60) X dX5_pay_56 (by decide) ?_
            refine z_lv (lv' := [(0, .ref h_t), (1, .int v1), (2, .int v2), (3, .int v3), (4, .int v4), (5, .int k31), (6, .int x36), (7, .int x41)]) [1, 2, 3, 4, 5, 6, 7, 0] rfl ?_
            exact K44_l (1 : Int32) hF
        have hF := if_e hF
        refine z_if_ne (tgt := 41) X dX5_pay_34 (by decide) (fun c60 => ?_) (fun c60 => ?_)
        · have hF := hF.2 c60
          refine z_iconst (v := (0 : Int32)) X dX5_pay_41 (by decide) ?_
          refine z_lv (lv' := [(0, .ref h_t), (1, .int v1), (2, .int v2), (3, .int v3), (4, .int v4), (5, .int k31), (6, .int x36)]) [1, 2, 3, 4, 5, 6, 0] rfl ?_
          exact K40_l (0 : Int32) hF
        · have hF := hF.1 c60
          refine z_iload_n X dX5_pay_37 rfl 4 rfl ?_
          refine z_goto (tgt := 42) X dX5_pay_38 (by decide) ?_
          refine z_lv (lv' := [(0, .ref h_t), (1, .int v1), (2, .int v2), (3, .int v3), (4, .int v4), (5, .int k31), (6, .int x36)]) [1, 2, 3, 4, 5, 6, 0] rfl ?_
          exact K40_l v3 hF
  refine z_lv (lv' := [(0, .ref h_t), (1, .int v1), (2, .int v2), (3, .int v3), (4, .int v4), (5, .int (0 : Int32))]) [1, 2, 3, 4, 5, 0] rfl ?_
  exact L33 FU o_t (0 : Int32) hL
abbrev w_X5_follow (cA : Nat → ClassId) (h_t : Nat) (a_t : Nat → Nat) (n_t : Nat) (o_t : Ob) (h_p1 : Nat) (a_p1 : Nat → Nat) (o_p1 : Ob) (a_p1_wares : Nat → Nat) (o_p1_wares : Ob) (a_p1_shelf : Nat → Nat) (o_p1_shelf : Ob) (a_p1_log : Nat → Nat) (o_p1_log : Ob) : va_W := [(h_t, .inr (5, [.int (o_t 0 0), .ref (a_t 1), .ref (a_t 2), .ref (a_t 3), .ref (a_t 4), .int (o_t 5 0), .int (o_t 6 0), .int (o_t 7 0), .int (o_t 8 0), .ref (a_t 9)])), (a_t 1, .inl (cA 0, n_t, .inl (o_t 1))), (a_t 2, .inl (cA 0, 256, .inl (o_t 2))), (a_t 3, .inl (cA 0, 256, .inl (o_t 3))), (a_t 4, .inl (cA 0, 256, .inl (o_t 4))), (a_t 9, .inl (cA 0, 40, .inl (o_t 9))), (h_p1, .inr (9, [.ref (a_p1 0), .ref (a_p1 1), .ref (a_p1 2), .ref (a_p1 3), .int (o_p1 4 0), .int (o_p1 5 0), .int (o_p1 6 0)])), (a_p1 3, .inl (cA 4, 3, .inr (.inr (.inr (.inr (bk (a_p1 20) (a_p1 21) (a_p1 22))))))), ((a_p1 0), .inr (10, [.int (o_p1_wares 0 0), .ref (a_p1_wares 1), .ref (a_p1_wares 2), .ref (a_p1_wares 3), .ref (a_p1_wares 4)])), (a_p1_wares 1, .inl (cA 0, 8, .inl (o_p1_wares 1))), (a_p1_wares 2, .inl (cA 0, 8, .inl (o_p1_wares 2))), (a_p1_wares 3, .inl (cA 0, 8, .inl (o_p1_wares 3))), (a_p1_wares 4, .inl (cA 0, 8, .inl (o_p1_wares 4))), ((a_p1 1), .inr (8, [.int (o_p1_shelf 0 0), .int (o_p1_shelf 1 0), .int (o_p1_shelf 2 0), .int (o_p1_shelf 3 0), .ref (a_p1_shelf 4), .ref (a_p1_shelf 5), .ref (a_p1_shelf 6)])), (a_p1_shelf 4, .inl (cA 0, 8, .inl (o_p1_shelf 4))), (a_p1_shelf 5, .inl (cA 0, 8, .inl (o_p1_shelf 5))), (a_p1_shelf 6, .inl (cA 1, 8, .inr (.inr (.inl (fun j => (o_p1_shelf 6 j).toUInt32))))), ((a_p1 2), .inr (4, [.int (o_p1_log 0 0), .ref (a_p1_log 1), .ref (a_p1_log 2), .ref (a_p1_log 3), .ref (a_p1_log 4)])), (a_p1_log 1, .inl (cA 0, 40, .inl (o_p1_log 1))), (a_p1_log 2, .inl (cA 0, 40, .inl (o_p1_log 2))), (a_p1_log 3, .inl (cA 0, 40, .inl (o_p1_log 3))), (a_p1_log 4, .inl (cA 0, 320, .inl (o_p1_log 4)))]
set_option maxRecDepth 20000 in
theorem h_X5_follow_X5 : ∀ w ∈ wsX50, w ∈ wsX5_follow := by decide +kernel
set_option maxRecDepth 20000 in
theorem k_X5_follow_21 : ZF wsX5_follow RX5 21 5 7 RX5 TX5 10 := ⟨rfl, by decide, h_X5_follow_X5, by decide +kernel⟩
set_option maxRecDepth 20000 in
theorem h_X5_follow_X9 : ∀ w ∈ wsX90, w ∈ wsX5_follow := by decide +kernel
set_option maxRecDepth 20000 in
theorem k_X5_follow_38 : ZF wsX5_follow RX5 38 9 0 RX9 TX9 7 := ⟨rfl, by decide, h_X5_follow_X9, by decide +kernel⟩
set_option maxRecDepth 20000 in
theorem k_X5_follow_48 : ZF wsX5_follow RX5 48 9 2 RX9 TX9 7 := ⟨rfl, by decide, h_X5_follow_X9, by decide +kernel⟩
set_option maxRecDepth 20000 in
theorem h_X5_follow_X4 : ∀ w ∈ wsX40, w ∈ wsX5_follow := by decide +kernel
set_option maxRecDepth 20000 in
theorem k_X5_follow_52 : ZF wsX5_follow RX5 52 4 0 RX4 TX4 5 := ⟨rfl, by decide, h_X5_follow_X4, by decide +kernel⟩
set_option maxRecDepth 20000 in
theorem k_X5_follow_57 : ZF wsX5_follow RX5 57 4 1 RX4 TX4 5 := ⟨rfl, by decide, h_X5_follow_X4, by decide +kernel⟩
set_option maxRecDepth 20000 in
theorem k_X5_follow_60 : ZF wsX5_follow RX5 60 9 1 RX9 TX9 7 := ⟨rfl, by decide, h_X5_follow_X9, by decide +kernel⟩
set_option maxRecDepth 20000 in
theorem h_X5_follow_X8 : ∀ w ∈ wsX80, w ∈ wsX5_follow := by decide +kernel
set_option maxRecDepth 20000 in
theorem k_X5_follow_64 : ZF wsX5_follow RX5 64 8 1 RX8 TX8 7 := ⟨rfl, by decide, h_X5_follow_X8, by decide +kernel⟩
set_option maxRecDepth 20000 in
theorem h_X5_follow_X10 : ∀ w ∈ wsX100, w ∈ wsX5_follow := by decide +kernel
set_option maxRecDepth 20000 in
theorem k_X5_follow_69 : ZF wsX5_follow RX5 69 10 1 RX10 TX10 5 := ⟨rfl, by decide, h_X5_follow_X10, by decide +kernel⟩
set_option maxRecDepth 20000 in
theorem k_X5_follow_83 : ZF wsX5_follow RX5 83 10 3 RX10 TX10 5 := ⟨rfl, by decide, h_X5_follow_X10, by decide +kernel⟩
set_option maxRecDepth 20000 in
theorem k_X5_follow_c82 : Cond.constant RX5 82 (1000000) ∈ wsX5_follow := by decide +kernel
set_option maxHeartbeats 8000000 in
set_option maxRecDepth 100000 in
theorem c_X5_follow (l : Launch) (D : va_G) (cA : Nat → ClassId) (g : Nat → Nat) (sz : Nat) (h_t : Nat) (a_t : Nat → Nat) (n_t : Nat) (o_t : Ob) (h_p1 : Nat) (a_p1 : Nat → Nat) (o_p1 : Ob) (a_p1_wares : Nat → Nat) (o_p1_wares : Ob) (a_p1_shelf : Nat → Nat) (o_p1_shelf : Ob) (a_p1_log : Nat → Nat) (o_p1_log : Ob) (v2 : Int32) (v3 : Int32) (o_t' : Ob) (hF : f_X5_follow n_t o_t o_p1_wares o_p1_shelf o_p1_log v2 v3 = some o_t') : Met l yX5_follow wsX5_follow ({ frames := 2, cells := 0, slots := 0, locals := 48 }) (va_Pc [.ref h_t, .ref h_p1, .int v2, .int v3] (PreW D cA g sz (w_X5_follow cA h_t a_t n_t o_t h_p1 a_p1 o_p1 a_p1_wares o_p1_wares a_p1_shelf o_p1_shelf a_p1_log o_p1_log))) (va_Qv (fun (_ : Unit) => True) (PostW D cA sz (w_X5_follow cA h_t a_t n_t o_t h_p1 a_p1 o_p1 a_p1_wares o_p1_wares a_p1_shelf o_p1_shelf a_p1_log o_p1_log) (w_X5_follow cA h_t a_t n_t o_t' h_p1 a_p1 o_p1 a_p1_wares o_p1_wares a_p1_shelf o_p1_shelf a_p1_log o_p1_log)) (va_A (w_X5_follow cA h_t a_t n_t o_t h_p1 a_p1 o_p1 a_p1_wares o_p1_wares a_p1_shelf o_p1_shelf a_p1_log o_p1_log) sz)) 0 0 (va_A (w_X5_follow cA h_t a_t n_t o_t h_p1 a_p1 o_p1 a_p1_wares o_p1_wares a_p1_shelf o_p1_shelf a_p1_log o_p1_log) sz) := by
  refine z_start (cc := cX5_follow) (maxL := 8) (ret := none) (lv0 := [(0, .ref h_t), (1, .ref h_p1), (2, .int v2), (3, .int v3)]) (Qc := fun sz => va_Qv (fun (_ : Unit) => True) (PostW D cA sz (w_X5_follow cA h_t a_t n_t o_t h_p1 a_p1 o_p1 a_p1_wares o_p1_wares a_p1_shelf o_p1_shelf a_p1_log o_p1_log) (w_X5_follow cA h_t a_t n_t o_t' h_p1 a_p1 o_p1 a_p1_wares o_p1_wares a_p1_shelf o_p1_shelf a_p1_log o_p1_log)) (va_A (w_X5_follow cA h_t a_t n_t o_t h_p1 a_p1 o_p1 a_p1_wares o_p1_wares a_p1_shelf o_p1_shelf a_p1_log o_p1_log) sz)) (free := fun sz => va_A (w_X5_follow cA h_t a_t n_t o_t h_p1 a_p1 o_p1 a_p1_wares o_p1_wares a_p1_shelf o_p1_shelf a_p1_log o_p1_log) sz) (by decide +kernel) rfl rfl (Nat.le_of_ble_eq_true rfl) ?_
  intro p e R s m args below meth c A Q hR hA hQ X hr hin
  unfold f_X5_follow at hF
  refine z_aload_n X dX5_follow_0 rfl 0 rfl ?_
  refine z_get (v := .int (o_t 7 0)) X k_X5_follow_21 0 rfl rfl dX5_follow_1 ?_
  refine z_iconst (v := (-1 : Int32)) X dX5_follow_4 (by decide) ?_
  obtain ⟨K5, eK5, hF⟩ := nx_e hF
  have K5_l : ∀ (q4 : Ob), K5 q4 = some o_t' → ZW p l e R s m args below meth c D A 8 0 0 Q (w_X5_follow cA h_t a_t n_t q4 h_p1 a_p1 o_p1 a_p1_wares o_p1_wares a_p1_shelf o_p1_shelf a_p1_log o_p1_log) [(0, .ref h_t), (1, .ref h_p1), (2, .int v2), (3, .int v3)] 17 [] := by
    intro q4 hF
    rw [eK5] at hF
    refine z_iload_n X dX5_follow_17 rfl 3 rfl ?_
    refine z_iconst (v := (-1 : Int32)) X dX5_follow_18 (by decide) ?_
    obtain ⟨K8, eK8, hF⟩ := nx_e hF
    have K8_l : ∀ (j7 : Int32), K8 j7 = some o_t' → ZW p l e R s m args below meth c D A 8 0 0 Q (w_X5_follow cA h_t a_t n_t q4 h_p1 a_p1 o_p1 a_p1_wares o_p1_wares a_p1_shelf o_p1_shelf a_p1_log o_p1_log) [(0, .ref h_t), (1, .ref h_p1), (2, .int v2)] 29 [.int j7] := by
      intro j7 hF
      rw [eK8] at hF
      refine z_istore (lv' := [(4, .int j7), (0, .ref h_t), (1, .ref h_p1), (2, .int v2)]) X dX5_follow_29 (by decide) rfl ?_
      refine z_aload_n X dX5_follow_31 rfl 1 rfl ?_
      refine z_get (v := .int (q4 7 0)) X k_X5_follow_21 0 rfl rfl dX5_follow_32 ?_
      obtain ⟨x9, ex9, hF⟩ := nx_e hF
      refine z_nm ex9 ?_
      refine z_istore (lv' := [(5, .int x9), (4, .int j7), (0, .ref h_t), (1, .ref h_p1), (2, .int v2)]) X dX5_follow_35 (by decide) rfl ?_
      obtain ⟨o54, hL, hF⟩ := zb1_e hF
      have L55_x : ∀ (o54' : Ob), o54' = o54 → ZW p l e R s m args below meth c D A 8 0 0 Q (w_X5_follow cA h_t a_t n_t o54' h_p1 a_p1 o_p1 a_p1_wares o_p1_wares a_p1_shelf o_p1_shelf a_p1_log o_p1_log) [] 162 [] := by
        intro o54' hz
        cases hz
        cases hF
        exact z_vret X hA hQ hr dX5_follow_162 (Nat.le_refl _) (Nat.le_refl _)
      obtain ⟨B90, hBB90, hL⟩ := zl2_b hL
      have L55 : ∀ (n : Nat) (o52 : Ob) (k53 : Int32), zl2 B90 n o52 k53 = some o54 → ZW p l e R s m args below meth c D A 8 0 0 Q (w_X5_follow cA h_t a_t n_t o52 h_p1 a_p1 o_p1 a_p1_wares o_p1_wares a_p1_shelf o_p1_shelf a_p1_log o_p1_log) [(0, .ref h_t), (1, .ref h_p1), (2, .int v2), (4, .int j7), (5, .int k53)] 37 [] := by
        intro n
        induction n with
        | zero => intro o52 k53 hL; cases hL
        | succ n ih =>
          intro o52 k53 hL
          obtain ⟨zz56, hF, hL⟩ := zl2_e hL
          rw [hBB90] at hF
          refine z_iload X dX5_follow_37 4 rfl ?_
          refine z_aload_n X dX5_follow_39 rfl 1 rfl ?_
          refine z_get (v := .ref (a_p1 2)) X k_X5_follow_48 6 rfl rfl dX5_follow_40 ?_
          refine z_get (v := .int (o_p1_log 0 0)) X k_X5_follow_52 17 rfl rfl dX5_follow_43 ?_
          have hF := if_e hF
          refine z_icmp_ge (tgt := 162) X dX5_follow_46 (by decide) (fun c89 => ?_) (fun c89 => ?_)
          · have hF := hF.1 c89
            cases hF
            have hL := Option.some.inj hL
            refine z_lv (lv' := []) [] rfl ?_
            exact L55_x o52 hL
          · have hF := hF.2 c89
            refine z_aload_n X dX5_follow_49 rfl 1 rfl ?_
            refine z_get (v := .ref (a_p1 2)) X k_X5_follow_48 6 rfl rfl dX5_follow_50 ?_
            refine z_get (v := .ref (a_p1_log 1)) X k_X5_follow_57 17 rfl rfl dX5_follow_53 ?_
            refine z_iload X dX5_follow_56 4 rfl ?_
            obtain ⟨g57, hF⟩ := gi_e hF
            refine z_iald X 18 rfl g57 dX5_follow_58 ?_
            obtain ⟨x58, ex58, hF⟩ := nx_e hF
            refine z_nm ex58 ?_
            refine z_istore (lv' := [(6, .int x58), (0, .ref h_t), (1, .ref h_p1), (2, .int v2), (4, .int j7), (5, .int k53)]) X dX5_follow_59 (by decide) rfl ?_
            refine z_aload_n X dX5_follow_61 rfl 2 rfl ?_
            refine z_get (v := .ref (a_p1 1)) X k_X5_follow_60 6 rfl rfl dX5_follow_62 ?_
            refine z_get (v := .int (o_p1_shelf 1 0)) X k_X5_follow_64 13 rfl rfl dX5_follow_65 ?_
            obtain ⟨K67, eK67, hF⟩ := nx_e hF
            have K67_l : ∀ (j66 : Int32), K67 j66 = some zz56 → ZW p l e R s m args below meth c D A 8 0 0 Q (w_X5_follow cA h_t a_t n_t o52 h_p1 a_p1 o_p1 a_p1_wares o_p1_wares a_p1_shelf o_p1_shelf a_p1_log o_p1_log) [(0, .ref h_t), (1, .ref h_p1), (2, .int v2), (4, .int j7), (5, .int k53), (6, .int x58)] 90 [.int j66] := by
              intro j66 hF
              rw [eK67] at hF
              refine z_istore (lv' := [(7, .int j66), (0, .ref h_t), (1, .ref h_p1), (2, .int v2), (4, .int j7), (5, .int k53), (6, .int x58)]) X dX5_follow_90 (by decide) rfl ?_
              refine z_aload_n X dX5_follow_92 rfl 1 rfl ?_
              refine z_aload_n X dX5_follow_93 rfl 1 rfl ?_
              refine z_iload X dX5_follow_94 5 rfl ?_
              obtain ⟨r68, hc69, hF⟩ := zb1_e hF
              refine z_Vi (As := [.int k53]) (rest := [.ref h_t]) (wc := (w_X5_forget cA h_t a_t n_t o52)) (wc' := (w_X5_forget cA h_t a_t n_t o52)) (ws' := (w_X5_follow cA h_t a_t n_t o52 h_p1 a_p1 o_p1 a_p1_wares o_p1_wares a_p1_shelf o_p1_shelf a_p1_log o_p1_log)) (rv := r68) X (cwV 1 X.2.2.2.2.1 gX5_follow_X5_row rfl rfl rfl (by decide +kernel) (by rw [hR]; exact ⟨Nat.le_of_ble_eq_true rfl, Nat.le_of_ble_eq_true rfl⟩)) (fun sz => c_X5_row l D cA g sz h_t a_t n_t o52 k53 r68 hc69) [0, 1, 2, 3, 4, 5] [1000, 1001, 1002, 1003, 1004, 1005, 6, 7, 8, 9, 10, 11, 12, 13, 14, 15, 16, 17, 18, 19, 20, 21] rfl (by decide) rfl (by decide) rfl rfl rfl rfl rfl rfl (Nat.le_of_ble_eq_true rfl) dX5_follow_96 ⟨Nat.zero_le _, Nat.zero_le _⟩ ?_
              refine z_aload_n X dX5_follow_99 rfl 1 rfl ?_
              refine z_iload X dX5_follow_100 5 rfl ?_
              refine z_iconst (v := (1 : Int32)) X dX5_follow_102 (by decide) ?_
              refine z_iadd X dX5_follow_103 ?_
              obtain ⟨r70, hc71, hF⟩ := zb1_e hF
              refine z_Vi (As := [.int (k53 + (1 : Int32))]) (rest := [.int r68, .ref h_t]) (wc := (w_X5_forget cA h_t a_t n_t o52)) (wc' := (w_X5_forget cA h_t a_t n_t o52)) (ws' := (w_X5_follow cA h_t a_t n_t o52 h_p1 a_p1 o_p1 a_p1_wares o_p1_wares a_p1_shelf o_p1_shelf a_p1_log o_p1_log)) (rv := r70) X (cwV 1 X.2.2.2.2.1 gX5_follow_X5_row rfl rfl rfl (by decide +kernel) (by rw [hR]; exact ⟨Nat.le_of_ble_eq_true rfl, Nat.le_of_ble_eq_true rfl⟩)) (fun sz => c_X5_row l D cA g sz h_t a_t n_t o52 (k53 + (1 : Int32)) r70 hc71) [0, 1, 2, 3, 4, 5] [1000, 1001, 1002, 1003, 1004, 1005, 6, 7, 8, 9, 10, 11, 12, 13, 14, 15, 16, 17, 18, 19, 20, 21] rfl (by decide) rfl (by decide) rfl rfl rfl rfl rfl rfl (Nat.le_of_ble_eq_true rfl) dX5_follow_104 ⟨Nat.zero_le _, Nat.zero_le _⟩ ?_
              obtain ⟨o72, hc73, hF⟩ := zb1_e hF
              refine z_Vv (As := [.int r68, .int r70]) (rest := []) (wc := (w_X5_forget cA h_t a_t n_t o52)) (wc' := (w_X5_forget cA h_t a_t n_t o72)) (ws' := (w_X5_follow cA h_t a_t n_t o72 h_p1 a_p1 o_p1 a_p1_wares o_p1_wares a_p1_shelf o_p1_shelf a_p1_log o_p1_log)) X (cwV 2 X.2.2.2.2.1 gX5_follow_X5_moveAny rfl rfl rfl (by decide +kernel) (by rw [hR]; exact ⟨Nat.le_of_ble_eq_true rfl, Nat.le_of_ble_eq_true rfl⟩)) (fun sz => c_X5_moveAny l D cA g sz h_t a_t n_t o52 r68 r70 o72 hc73) [0, 1, 2, 3, 4, 5] [1000, 1001, 1002, 1003, 1004, 1005, 6, 7, 8, 9, 10, 11, 12, 13, 14, 15, 16, 17, 18, 19, 20, 21] rfl (by decide) rfl (by decide) rfl rfl rfl rfl rfl rfl (Nat.le_of_ble_eq_true rfl) dX5_follow_107 ⟨Nat.zero_le _, Nat.zero_le _⟩ ?_
              refine z_aload_n X dX5_follow_110 rfl 1 rfl ?_
              refine z_aload_n X dX5_follow_111 rfl 1 rfl ?_
              refine z_iload X dX5_follow_112 5 rfl ?_
              refine z_iconst (v := (1 : Int32)) X dX5_follow_114 (by decide) ?_
              refine z_iadd X dX5_follow_115 ?_
              obtain ⟨r74, hc75, hF⟩ := zb1_e hF
              refine z_Vi (As := [.int (k53 + (1 : Int32))]) (rest := [.ref h_t]) (wc := (w_X5_forget cA h_t a_t n_t o72)) (wc' := (w_X5_forget cA h_t a_t n_t o72)) (ws' := (w_X5_follow cA h_t a_t n_t o72 h_p1 a_p1 o_p1 a_p1_wares o_p1_wares a_p1_shelf o_p1_shelf a_p1_log o_p1_log)) (rv := r74) X (cwV 1 X.2.2.2.2.1 gX5_follow_X5_row rfl rfl rfl (by decide +kernel) (by rw [hR]; exact ⟨Nat.le_of_ble_eq_true rfl, Nat.le_of_ble_eq_true rfl⟩)) (fun sz => c_X5_row l D cA g sz h_t a_t n_t o72 (k53 + (1 : Int32)) r74 hc75) [0, 1, 2, 3, 4, 5] [1000, 1001, 1002, 1003, 1004, 1005, 6, 7, 8, 9, 10, 11, 12, 13, 14, 15, 16, 17, 18, 19, 20, 21] rfl (by decide) rfl (by decide) rfl rfl rfl rfl rfl rfl (Nat.le_of_ble_eq_true rfl) dX5_follow_116 ⟨Nat.zero_le _, Nat.zero_le _⟩ ?_
              refine z_iconst (v := (1 : Int32)) X dX5_follow_119 (by decide) ?_
              refine z_iload X dX5_follow_120 6 rfl ?_
              refine z_ishl X dX5_follow_122 ?_
              refine z_iload X dX5_follow_123 0 rfl ?_
              obtain ⟨K79, eK79, hF⟩ := nx_e hF
              have K79_l : ∀ (j78 : Int32), K79 j78 = some zz56 → ZW p l e R s m args below meth c D A 8 0 0 Q (w_X5_follow cA h_t a_t n_t o72 h_p1 a_p1 o_p1 a_p1_wares o_p1_wares a_p1_shelf o_p1_shelf a_p1_log o_p1_log) [(0, .ref h_t), (1, .ref h_p1), (2, .int v2), (4, .int j7), (5, .int k53)] 143 [.int j78, .int ((1 : Int32) <<< (x58 &&& 31)), .int r74, .ref h_t] := by
                intro j78 hF
                rw [eK79] at hF
                refine z_iload X dX5_follow_143 3 rfl ?_
                obtain ⟨o80, hc81, hF⟩ := zb1_e hF
                refine z_Vv (As := [.int r74, .int ((1 : Int32) <<< (x58 &&& 31)), .int j78, .int j7]) (rest := []) (wc := (w_X5_forget cA h_t a_t n_t o72)) (wc' := (w_X5_forget cA h_t a_t n_t o80)) (ws' := (w_X5_follow cA h_t a_t n_t o80 h_p1 a_p1 o_p1 a_p1_wares o_p1_wares a_p1_shelf o_p1_shelf a_p1_log o_p1_log)) X (cwV 4 X.2.2.2.2.1 gX5_follow_X5_pay rfl rfl rfl (by decide +kernel) (by rw [hR]; exact ⟨Nat.le_of_ble_eq_true rfl, Nat.le_of_ble_eq_true rfl⟩)) (fun sz => c_X5_pay l D cA g sz h_t a_t n_t o72 r74 ((1 : Int32) <<< (x58 &&& 31)) j78 j7 o80 hc81) [0, 1, 2, 3, 4, 5] [1000, 1001, 1002, 1003, 1004, 1005, 6, 7, 8, 9, 10, 11, 12, 13, 14, 15, 16, 17, 18, 19, 20, 21] rfl (by decide) rfl (by decide) rfl rfl rfl rfl rfl rfl (Nat.le_of_ble_eq_true rfl) dX5_follow_145 ⟨Nat.zero_le _, Nat.zero_le _⟩ ?_
                refine z_aload_n X dX5_follow_148 rfl 0 rfl ?_
                refine z_iload X dX5_follow_149 4 rfl ?_
                refine z_iconst (v := (1 : Int32)) X dX5_follow_151 (by decide) ?_
                refine z_iadd X dX5_follow_152 ?_
                obtain ⟨o82, eo82, hF⟩ := nx_e hF
                refine z_put (ws' := (w_X5_follow cA h_t a_t n_t o82 h_p1 a_p1 o_p1 a_p1_wares o_p1_wares a_p1_shelf o_p1_shelf a_p1_log o_p1_log)) X k_X5_follow_21 tyX5 tyX5_ok nmX5 rfl rfl 0 rfl (Nat.le_of_ble_eq_true rfl) (by rw [eo82]; rfl) dX5_follow_153 ?_
                obtain ⟨x83, ex83, hF⟩ := nx_e hF
                refine z_iinc (v := x83) (lv' := [(5, .int x83), (0, .ref h_t), (1, .ref h_p1), (2, .int v2), (4, .int j7)]) (j := 4) X dX5_follow_156 rfl (by rw [ex83]; rfl) (by decide) rfl ?_
                refine z_goto (tgt := 37) X dX5_follow_159 (by decide) ?_
                cases hF
                refine z_lv (lv' := [(0, .ref h_t), (1, .ref h_p1), (2, .int v2), (4, .int j7), (5, .int x83)]) [1, 2, 3, 4, 0] rfl ?_
                exact ih o82 x83 hL
              have hF := if_e hF
              refine z_if_eq (tgt := 133) X dX5_follow_125 (by decide) (fun c85 => ?_) (fun c85 => ?_)
              · have hF := hF.1 c85
                refine z_aload_n X dX5_follow_133 rfl 2 rfl ?_
                refine z_get (v := .ref (a_p1 0)) X k_X5_follow_38 6 rfl rfl dX5_follow_134 ?_
                refine z_get (v := .ref (a_p1_wares 3)) X k_X5_follow_83 8 rfl rfl dX5_follow_137 ?_
                refine z_iload X dX5_follow_140 6 rfl ?_
                obtain ⟨g84, hF⟩ := gi_e hF
                refine z_iald X 11 rfl g84 dX5_follow_142 ?_
                refine z_lv (lv' := [(0, .ref h_t), (1, .ref h_p1), (2, .int v2), (4, .int j7), (5, .int k53)]) [1, 2, 3, 4, 5] rfl ?_
                exact K79_l (o_p1_wares 3 (Int32.toNatClampNeg x58)) hF
              · have hF := hF.2 c85
                refine z_ldc X k_X5_follow_c82 dX5_follow_128 ?_
                refine z_goto (tgt := 143) X dX5_follow_130 (by decide) ?_
                refine z_lv (lv' := [(0, .ref h_t), (1, .ref h_p1), (2, .int v2), (4, .int j7), (5, .int k53)]) [1, 2, 3, 4, 5] rfl ?_
                exact K79_l (1000000 : Int32) hF
            obtain ⟨K62, eK62, hF⟩ := nx_e hF
            have K62_l : ∀ (_ : Unit), K62 () = some zz56 → ZW p l e R s m args below meth c D A 8 0 0 Q (w_X5_follow cA h_t a_t n_t o52 h_p1 a_p1 o_p1 a_p1_wares o_p1_wares a_p1_shelf o_p1_shelf a_p1_log o_p1_log) [(0, .ref h_t), (1, .ref h_p1), (2, .int v2), (4, .int j7), (5, .int k53), (6, .int x58)] 89 [] := by
              intro _ hF
              rw [eK62] at hF
              refine z_iconst (v := (0 : Int32)) X dX5_follow_89 (by decide) ?_
              refine z_lv (lv' := [(0, .ref h_t), (1, .ref h_p1), (2, .int v2), (4, .int j7), (5, .int k53), (6, .int x58)]) [0, 1, 2, 3, 4, 5] rfl ?_
              exact K67_l (0 : Int32) hF
            have hF := if_e hF
            refine z_if_ne (tgt := 89) X dX5_follow_68 (by decide) (fun c88 => ?_) (fun c88 => ?_)
            · have hF := hF.2 c88
              refine z_lv (lv' := [(0, .ref h_t), (1, .ref h_p1), (2, .int v2), (4, .int j7), (5, .int k53), (6, .int x58)]) [1, 2, 3, 4, 5, 0] rfl ?_
              exact K62_l () hF
            · have hF := hF.1 c88
              refine z_aload_n X dX5_follow_71 rfl 2 rfl ?_
              refine z_get (v := .ref (a_p1 0)) X k_X5_follow_38 6 rfl rfl dX5_follow_72 ?_
              refine z_get (v := .ref (a_p1_wares 1)) X k_X5_follow_69 8 rfl rfl dX5_follow_75 ?_
              refine z_iload X dX5_follow_78 0 rfl ?_
              obtain ⟨g86, hF⟩ := gi_e hF
              refine z_iald X 9 rfl g86 dX5_follow_80 ?_
              refine z_iload_n X dX5_follow_81 rfl 3 rfl ?_
              have hF := if_e hF
              refine z_icmp_gt (tgt := 89) X dX5_follow_82 (by decide) (fun c87 => ?_) (fun c87 => ?_)
              · have hF := hF.1 c87
                refine z_lv (lv' := [(0, .ref h_t), (1, .ref h_p1), (2, .int v2), (4, .int j7), (5, .int k53), (6, .int x58)]) [1, 2, 3, 4, 5, 0] rfl ?_
                exact K62_l () hF
              · have hF := hF.2 c87
                refine z_iconst (v := (1 : Int32)) X dX5_follow_85 (by decide) ?_
                refine z_goto (tgt := 90) X dX5_follow_86 (by decide) ?_
                refine z_lv (lv' := [(0, .ref h_t), (1, .ref h_p1), (2, .int v2), (4, .int j7), (5, .int k53), (6, .int x58)]) [1, 2, 3, 4, 5, 0] rfl ?_
                exact K67_l (1 : Int32) hF
      refine z_lv (lv' := [(0, .ref h_t), (1, .ref h_p1), (2, .int v2), (4, .int j7), (5, .int x9)]) [2, 3, 4, 1, 0] rfl ?_
      exact L55 FU q4 x9 hL
    have hF := if_e hF
    refine z_icmp_ne (tgt := 26) X dX5_follow_19 (by decide) (fun c91 => ?_) (fun c91 => ?_)
    · have hF := hF.2 c91
      refine z_iconst (v := (1 : Int32)) X dX5_follow_26 (by decide) ?_
      refine z_iload_n X dX5_follow_27 rfl 3 rfl ?_
      refine z_ishl X dX5_follow_28 ?_
      refine z_lv (lv' := [(0, .ref h_t), (1, .ref h_p1), (2, .int v2)]) [0, 1, 2] rfl ?_
      exact K8_l ((1 : Int32) <<< (v3 &&& 31)) hF
    · have hF := hF.1 c91
      refine z_iconst (v := (0 : Int32)) X dX5_follow_22 (by decide) ?_
      refine z_goto (tgt := 29) X dX5_follow_23 (by decide) ?_
      refine z_lv (lv' := [(0, .ref h_t), (1, .ref h_p1), (2, .int v2)]) [0, 1, 2] rfl ?_
      exact K8_l (0 : Int32) hF
  have hF := if_e hF
  refine z_icmp_ne (tgt := 17) X dX5_follow_5 (by decide) (fun c94 => ?_) (fun c94 => ?_)
  · have hF := hF.2 c94
    refine z_lv (lv' := [(0, .ref h_t), (1, .ref h_p1), (2, .int v2), (3, .int v3)]) [0, 1, 2, 3] rfl ?_
    exact K5_l o_t hF
  · have hF := hF.1 c94
    refine z_aload_n X dX5_follow_8 rfl 0 rfl ?_
    refine z_aload_n X dX5_follow_9 rfl 1 rfl ?_
    refine z_get (v := .ref (a_p1 0)) X k_X5_follow_38 6 rfl rfl dX5_follow_10 ?_
    refine z_iload_n X dX5_follow_13 rfl 2 rfl ?_
    obtain ⟨o92, hc93, hF⟩ := zb1_e hF
    refine z_Vv (As := [.ref (a_p1 0), .int v2]) (rest := []) (wc := (w_X5_begin cA h_t a_t n_t o_t (a_p1 0) a_p1_wares o_p1_wares)) (wc' := (w_X5_begin cA h_t a_t n_t o92 (a_p1 0) a_p1_wares o_p1_wares)) (ws' := (w_X5_follow cA h_t a_t n_t o92 h_p1 a_p1 o_p1 a_p1_wares o_p1_wares a_p1_shelf o_p1_shelf a_p1_log o_p1_log)) X (cwV 2 X.2.2.2.2.1 gX5_follow_X5_begin rfl rfl rfl (by decide +kernel) (by rw [hR]; exact ⟨Nat.le_of_ble_eq_true rfl, Nat.le_of_ble_eq_true rfl⟩)) (fun sz => c_X5_begin l D cA g sz h_t a_t n_t o_t (a_p1 0) a_p1_wares o_p1_wares v2 o92 hc93) [0, 1, 2, 3, 4, 5, 8, 9, 10, 11, 12] [1000, 1001, 1002, 1003, 1004, 1005, 6, 7, 1006, 1007, 1008, 1009, 1010, 13, 14, 15, 16, 17, 18, 19, 20, 21] rfl (by decide) rfl (by decide) rfl rfl rfl rfl rfl rfl (Nat.le_of_ble_eq_true rfl) dX5_follow_14 ⟨Nat.zero_le _, Nat.zero_le _⟩ ?_
    refine z_lv (lv' := [(0, .ref h_t), (1, .ref h_p1), (2, .int v2), (3, .int v3)]) [0, 1, 2, 3] rfl ?_
    exact K5_l o92 hF
set_option maxRecDepth 20000 in
theorem h_X5_leastSet_X5 : ∀ w ∈ wsX50, w ∈ wsX5_leastSet := by decide +kernel
set_option maxRecDepth 20000 in
theorem k_X5_leastSet_18 : ZF wsX5_leastSet RX5 18 5 4 RX5 TX5 10 := ⟨rfl, by decide, h_X5_leastSet_X5, by decide +kernel⟩
set_option maxRecDepth 20000 in
theorem k_X5_leastSet_35 : ZF wsX5_leastSet RX5 35 5 1 RX5 TX5 10 := ⟨rfl, by decide, h_X5_leastSet_X5, by decide +kernel⟩
set_option maxRecDepth 20000 in
theorem k_X5_leastSet_101 : ZF wsX5_leastSet RX5 101 5 5 RX5 TX5 10 := ⟨rfl, by decide, h_X5_leastSet_X5, by decide +kernel⟩
set_option maxHeartbeats 8000000 in
set_option maxRecDepth 100000 in
theorem c_X5_leastSet (l : Launch) (D : va_G) (cA : Nat → ClassId) (g : Nat → Nat) (sz : Nat) (h_t : Nat) (a_t : Nat → Nat) (n_t : Nat) (o_t : Ob) (v1 : Int32) (rv : Int32) (hF : f_X5_leastSet n_t o_t v1 = some rv) : Met l yX5_leastSet wsX5_leastSet ({ frames := 1, cells := 0, slots := 0, locals := 21 }) (va_Pc [.ref h_t, .int v1] (PreW D cA g sz (w_X5_forget cA h_t a_t n_t o_t))) (va_Qi (fun (r : Int32) (_ : Unit) => r = rv) (PostW D cA sz (w_X5_forget cA h_t a_t n_t o_t) (w_X5_forget cA h_t a_t n_t o_t)) (va_A (w_X5_forget cA h_t a_t n_t o_t) sz)) 0 0 (va_A (w_X5_forget cA h_t a_t n_t o_t) sz) := by
  refine z_start (cc := cX5_leastSet) (maxL := 4) (ret := (some .int)) (lv0 := [(0, .ref h_t), (1, .int v1)]) (Qc := fun sz => va_Qi (fun (r : Int32) (_ : Unit) => r = rv) (PostW D cA sz (w_X5_forget cA h_t a_t n_t o_t) (w_X5_forget cA h_t a_t n_t o_t)) (va_A (w_X5_forget cA h_t a_t n_t o_t) sz)) (free := fun sz => va_A (w_X5_forget cA h_t a_t n_t o_t) sz) (by decide +kernel) rfl rfl (Nat.le_of_ble_eq_true rfl) ?_
  intro p e R s m args below meth c A Q hR hA hQ X hr hin
  unfold f_X5_leastSet at hF
  refine z_iconst (v := (0 : Int32)) X dX5_leastSet_0 (by decide) ?_
  refine z_istore_n (lv' := [(2, .int (0 : Int32)), (0, .ref h_t), (1, .int v1)]) X dX5_leastSet_1 rfl (by decide) rfl ?_
  refine z_iconst (v := (1 : Int32)) X dX5_leastSet_2 (by decide) ?_
  refine z_istore_n (lv' := [(3, .int (1 : Int32)), (2, .int (0 : Int32)), (0, .ref h_t), (1, .int v1)]) X dX5_leastSet_3 rfl (by decide) rfl ?_
  obtain ⟨k19, hL, hF⟩ := zb1_e hF
  have L20_x : ∀ (k19' : Int32), k19' = k19 → ZW p l e R s m args below meth c D A 4 0 0 Q (w_X5_forget cA h_t a_t n_t o_t) [(2, .int k19')] 57 [] := by
    intro k19' hz
    cases hz
    refine z_iload_n X dX5_leastSet_57 rfl 0 rfl ?_
    cases hF
    exact z_iret X hA hQ hr rfl dX5_leastSet_58 (Nat.le_refl _) (Nat.le_refl _)
  obtain ⟨B35, hBB35, hL⟩ := zl2_b hL
  have L20 : ∀ (n : Nat) (k17 : Int32) (k18 : Int32), zl2 B35 n k17 k18 = some k19 → ZW p l e R s m args below meth c D A 4 0 0 Q (w_X5_forget cA h_t a_t n_t o_t) [(0, .ref h_t), (1, .int v1), (2, .int k17), (3, .int k18)] 4 [] := by
    intro n
    induction n with
    | zero => intro k17 k18 hL; cases hL
    | succ n ih =>
      intro k17 k18 hL
      obtain ⟨zz21, hF, hL⟩ := zl2_e hL
      rw [hBB35] at hF
      refine z_iload_n X dX5_leastSet_4 rfl 3 rfl ?_
      refine z_aload_n X dX5_leastSet_5 rfl 0 rfl ?_
      refine z_get (v := .int (o_t 5 0)) X k_X5_leastSet_101 0 rfl rfl dX5_leastSet_6 ?_
      have hF := if_e hF
      refine z_icmp_ge (tgt := 57) X dX5_leastSet_9 (by decide) (fun c34 => ?_) (fun c34 => ?_)
      · have hF := hF.1 c34
        cases hF
        have hL := Option.some.inj hL
        refine z_lv (lv' := [(2, .int k17)]) [2] rfl ?_
        exact L20_x k17 hL
      · have hF := hF.2 c34
        refine z_aload_n X dX5_leastSet_12 rfl 0 rfl ?_
        refine z_get (v := .ref (a_t 1)) X k_X5_leastSet_35 0 rfl rfl dX5_leastSet_13 ?_
        refine z_aload_n X dX5_leastSet_16 rfl 0 rfl ?_
        refine z_iload_n X dX5_leastSet_17 rfl 1 rfl ?_
        obtain ⟨r22, hc23, hF⟩ := zb1_e hF
        refine z_Vi (As := [.int v1]) (rest := [.ref (a_t 1)]) (wc := (w_X5_forget cA h_t a_t n_t o_t)) (wc' := (w_X5_forget cA h_t a_t n_t o_t)) (ws' := (w_X5_forget cA h_t a_t n_t o_t)) (rv := r22) X (cwV 1 X.2.2.2.2.1 gX5_leastSet_X5_row rfl rfl rfl (by decide +kernel) (by rw [hR]; exact ⟨Nat.le_of_ble_eq_true rfl, Nat.le_of_ble_eq_true rfl⟩)) (fun sz => c_X5_row l D cA g sz h_t a_t n_t o_t v1 r22 hc23) [0, 1, 2, 3, 4, 5] [1000, 1001, 1002, 1003, 1004, 1005] rfl (by decide) rfl (by decide) rfl rfl rfl rfl rfl rfl (Nat.le_of_ble_eq_true rfl) dX5_leastSet_18 ⟨Nat.zero_le _, Nat.zero_le _⟩ ?_
        refine z_aload_n X dX5_leastSet_21 rfl 0 rfl ?_
        refine z_get (v := .ref (a_t 4)) X k_X5_leastSet_18 0 rfl rfl dX5_leastSet_22 ?_
        refine z_iload_n X dX5_leastSet_25 rfl 3 rfl ?_
        obtain ⟨g24, hF⟩ := gi_e hF
        refine z_iald X 4 rfl g24 dX5_leastSet_26 ?_
        refine z_iadd X dX5_leastSet_27 ?_
        obtain ⟨g25, hF⟩ := gi_e hF
        refine z_iald X 1 rfl g25 dX5_leastSet_28 ?_
        refine z_aload_n X dX5_leastSet_29 rfl 0 rfl ?_
        refine z_get (v := .ref (a_t 1)) X k_X5_leastSet_35 0 rfl rfl dX5_leastSet_30 ?_
        refine z_aload_n X dX5_leastSet_33 rfl 0 rfl ?_
        refine z_iload_n X dX5_leastSet_34 rfl 1 rfl ?_
        obtain ⟨r26, hc27, hF⟩ := zb1_e hF
        refine z_Vi (As := [.int v1]) (rest := [.ref (a_t 1), .int (o_t 1 (Int32.toNatClampNeg (r22 + (o_t 4 (Int32.toNatClampNeg k18)))))]) (wc := (w_X5_forget cA h_t a_t n_t o_t)) (wc' := (w_X5_forget cA h_t a_t n_t o_t)) (ws' := (w_X5_forget cA h_t a_t n_t o_t)) (rv := r26) X (cwV 1 X.2.2.2.2.1 gX5_leastSet_X5_row rfl rfl rfl (by decide +kernel) (by rw [hR]; exact ⟨Nat.le_of_ble_eq_true rfl, Nat.le_of_ble_eq_true rfl⟩)) (fun sz => c_X5_row l D cA g sz h_t a_t n_t o_t v1 r26 hc27) [0, 1, 2, 3, 4, 5] [1000, 1001, 1002, 1003, 1004, 1005] rfl (by decide) rfl (by decide) rfl rfl rfl rfl rfl rfl (Nat.le_of_ble_eq_true rfl) dX5_leastSet_35 ⟨Nat.zero_le _, Nat.zero_le _⟩ ?_
        refine z_iload_n X dX5_leastSet_38 rfl 2 rfl ?_
        refine z_iadd X dX5_leastSet_39 ?_
        obtain ⟨g28, hF⟩ := gi_e hF
        refine z_iald X 1 rfl g28 dX5_leastSet_40 ?_
        have hF := if_e hF
        refine z_icmp_ge (tgt := 51) X dX5_leastSet_41 (by decide) (fun c33 => ?_) (fun c33 => ?_)
        · have hF := hF.1 c33
          obtain ⟨x29, ex29, hF⟩ := nx_e hF
          refine z_iinc (v := x29) (lv' := [(3, .int x29), (0, .ref h_t), (1, .int v1), (2, .int k17)]) (j := 3) X dX5_leastSet_51 rfl (by rw [ex29]; rfl) (by decide) rfl ?_
          refine z_goto (tgt := 4) X dX5_leastSet_54 (by decide) ?_
          cases hF
          refine z_lv (lv' := [(0, .ref h_t), (1, .int v1), (2, .int k17), (3, .int x29)]) [1, 2, 3, 0] rfl ?_
          exact ih k17 x29 hL
        · have hF := hF.2 c33
          refine z_aload_n X dX5_leastSet_44 rfl 0 rfl ?_
          refine z_get (v := .ref (a_t 4)) X k_X5_leastSet_18 0 rfl rfl dX5_leastSet_45 ?_
          refine z_iload_n X dX5_leastSet_48 rfl 3 rfl ?_
          obtain ⟨g30, hF⟩ := gi_e hF
          refine z_iald X 4 rfl g30 dX5_leastSet_49 ?_
          obtain ⟨x31, ex31, hF⟩ := nx_e hF
          refine z_nm ex31 ?_
          refine z_istore_n (lv' := [(2, .int x31), (0, .ref h_t), (1, .int v1), (3, .int k18)]) X dX5_leastSet_50 rfl (by decide) rfl ?_
          obtain ⟨x32, ex32, hF⟩ := nx_e hF
          refine z_iinc (v := x32) (lv' := [(3, .int x32), (2, .int x31), (0, .ref h_t), (1, .int v1)]) (j := 3) X dX5_leastSet_51 rfl (by rw [ex32]; rfl) (by decide) rfl ?_
          refine z_goto (tgt := 4) X dX5_leastSet_54 (by decide) ?_
          cases hF
          refine z_lv (lv' := [(0, .ref h_t), (1, .int v1), (2, .int x31), (3, .int x32)]) [2, 3, 1, 0] rfl ?_
          exact ih x31 x32 hL
  refine z_lv (lv' := [(0, .ref h_t), (1, .int v1), (2, .int (0 : Int32)), (3, .int (1 : Int32))]) [2, 3, 1, 0] rfl ?_
  exact L20 FU (0 : Int32) (1 : Int32) hL
set_option maxRecDepth 20000 in
theorem h_X5_least_X5 : ∀ w ∈ wsX50, w ∈ wsX5_least := by decide +kernel
set_option maxRecDepth 20000 in
theorem k_X5_least_35 : ZF wsX5_least RX5 35 5 1 RX5 TX5 10 := ⟨rfl, by decide, h_X5_least_X5, by decide +kernel⟩
set_option maxHeartbeats 8000000 in
set_option maxRecDepth 100000 in
theorem c_X5_least (l : Launch) (D : va_G) (cA : Nat → ClassId) (g : Nat → Nat) (sz : Nat) (h_t : Nat) (a_t : Nat → Nat) (n_t : Nat) (o_t : Ob) (v1 : Int32) (rv : Int32) (hF : f_X5_least n_t o_t v1 = some rv) : Met l yX5_least wsX5_least ({ frames := 2, cells := 0, slots := 0, locals := 44 }) (va_Pc [.ref h_t, .int v1] (PreW D cA g sz (w_X5_forget cA h_t a_t n_t o_t))) (va_Qi (fun (r : Int32) (_ : Unit) => r = rv) (PostW D cA sz (w_X5_forget cA h_t a_t n_t o_t) (w_X5_forget cA h_t a_t n_t o_t)) (va_A (w_X5_forget cA h_t a_t n_t o_t) sz)) 0 0 (va_A (w_X5_forget cA h_t a_t n_t o_t) sz) := by
  refine z_start (cc := cX5_least) (maxL := 2) (ret := (some .int)) (lv0 := [(0, .ref h_t), (1, .int v1)]) (Qc := fun sz => va_Qi (fun (r : Int32) (_ : Unit) => r = rv) (PostW D cA sz (w_X5_forget cA h_t a_t n_t o_t) (w_X5_forget cA h_t a_t n_t o_t)) (va_A (w_X5_forget cA h_t a_t n_t o_t) sz)) (free := fun sz => va_A (w_X5_forget cA h_t a_t n_t o_t) sz) (by decide +kernel) rfl rfl (Nat.le_of_ble_eq_true rfl) ?_
  intro p e R s m args below meth c A Q hR hA hQ X hr hin
  unfold f_X5_least at hF
  refine z_aload_n X dX5_least_0 rfl 0 rfl ?_
  refine z_get (v := .ref (a_t 1)) X k_X5_least_35 0 rfl rfl dX5_least_1 ?_
  refine z_aload_n X dX5_least_4 rfl 0 rfl ?_
  refine z_iload_n X dX5_least_5 rfl 1 rfl ?_
  obtain ⟨r1, hc2, hF⟩ := zb1_e hF
  refine z_Vi (As := [.int v1]) (rest := [.ref (a_t 1)]) (wc := (w_X5_forget cA h_t a_t n_t o_t)) (wc' := (w_X5_forget cA h_t a_t n_t o_t)) (ws' := (w_X5_forget cA h_t a_t n_t o_t)) (rv := r1) X (cwV 1 X.2.2.2.2.1 gX5_least_X5_row rfl rfl rfl (by decide +kernel) (by rw [hR]; exact ⟨Nat.le_of_ble_eq_true rfl, Nat.le_of_ble_eq_true rfl⟩)) (fun sz => c_X5_row l D cA g sz h_t a_t n_t o_t v1 r1 hc2) [0, 1, 2, 3, 4, 5] [1000, 1001, 1002, 1003, 1004, 1005] rfl (by decide) rfl (by decide) rfl rfl rfl rfl rfl rfl (Nat.le_of_ble_eq_true rfl) dX5_least_6 ⟨Nat.zero_le _, Nat.zero_le _⟩ ?_
  refine z_aload_n X dX5_least_9 rfl 0 rfl ?_
  refine z_iload_n X dX5_least_10 rfl 1 rfl ?_
  obtain ⟨r3, hc4, hF⟩ := zb1_e hF
  refine z_Vi (As := [.int v1]) (rest := [.int r1, .ref (a_t 1)]) (wc := (w_X5_forget cA h_t a_t n_t o_t)) (wc' := (w_X5_forget cA h_t a_t n_t o_t)) (ws' := (w_X5_forget cA h_t a_t n_t o_t)) (rv := r3) X (cwV 1 X.2.2.2.2.1 gX5_least_X5_leastSet rfl rfl rfl (by decide +kernel) (by rw [hR]; exact ⟨Nat.le_of_ble_eq_true rfl, Nat.le_of_ble_eq_true rfl⟩)) (fun sz => c_X5_leastSet l D cA g sz h_t a_t n_t o_t v1 r3 hc4) [0, 1, 2, 3, 4, 5] [1000, 1001, 1002, 1003, 1004, 1005] rfl (by decide) rfl (by decide) rfl rfl rfl rfl rfl rfl (Nat.le_of_ble_eq_true rfl) dX5_least_11 ⟨Nat.zero_le _, Nat.zero_le _⟩ ?_
  refine z_iadd X dX5_least_14 ?_
  obtain ⟨g5, hF⟩ := gi_e hF
  refine z_iald X 1 rfl g5 dX5_least_15 ?_
  cases hF
  exact z_iret X hA hQ hr rfl dX5_least_16 (Nat.le_refl _) (Nat.le_refl _)
abbrev w_X5_servingCost (cA : Nat → ClassId) (h_t : Nat) (a_t : Nat → Nat) (n_t : Nat) (o_t : Ob) (h_p1 : Nat) (a_p1 : Nat → Nat) (o_p1 : Ob) (a_p1_wares : Nat → Nat) (o_p1_wares : Ob) (a_p1_log : Nat → Nat) (o_p1_log : Ob) : va_W := [(h_t, .inr (5, [.int (o_t 0 0), .ref (a_t 1), .ref (a_t 2), .ref (a_t 3), .ref (a_t 4), .int (o_t 5 0), .int (o_t 6 0), .int (o_t 7 0), .int (o_t 8 0), .ref (a_t 9)])), (a_t 1, .inl (cA 0, n_t, .inl (o_t 1))), (a_t 2, .inl (cA 0, 256, .inl (o_t 2))), (a_t 3, .inl (cA 0, 256, .inl (o_t 3))), (a_t 4, .inl (cA 0, 256, .inl (o_t 4))), (a_t 9, .inl (cA 0, 40, .inl (o_t 9))), (h_p1, .inr (9, [.ref (a_p1 0), .ref (a_p1 1), .ref (a_p1 2), .ref (a_p1 3), .int (o_p1 4 0), .int (o_p1 5 0), .int (o_p1 6 0)])), (a_p1 3, .inl (cA 4, 3, .inr (.inr (.inr (.inr (bk (a_p1 20) (a_p1 21) (a_p1 22))))))), ((a_p1 0), .inr (10, [.int (o_p1_wares 0 0), .ref (a_p1_wares 1), .ref (a_p1_wares 2), .ref (a_p1_wares 3), .ref (a_p1_wares 4)])), (a_p1_wares 1, .inl (cA 0, 8, .inl (o_p1_wares 1))), (a_p1_wares 2, .inl (cA 0, 8, .inl (o_p1_wares 2))), (a_p1_wares 3, .inl (cA 0, 8, .inl (o_p1_wares 3))), (a_p1_wares 4, .inl (cA 0, 8, .inl (o_p1_wares 4))), ((a_p1 2), .inr (4, [.int (o_p1_log 0 0), .ref (a_p1_log 1), .ref (a_p1_log 2), .ref (a_p1_log 3), .ref (a_p1_log 4)])), (a_p1_log 1, .inl (cA 0, 40, .inl (o_p1_log 1))), (a_p1_log 2, .inl (cA 0, 40, .inl (o_p1_log 2))), (a_p1_log 3, .inl (cA 0, 40, .inl (o_p1_log 3))), (a_p1_log 4, .inl (cA 0, 320, .inl (o_p1_log 4)))]
set_option maxRecDepth 20000 in
theorem h_X5_servingCost_X5 : ∀ w ∈ wsX50, w ∈ wsX5_servingCost := by decide +kernel
set_option maxRecDepth 20000 in
theorem k_X5_servingCost_28 : ZF wsX5_servingCost RX5 28 5 9 RX5 TX5 10 := ⟨rfl, by decide, h_X5_servingCost_X5, by decide +kernel⟩
set_option maxRecDepth 20000 in
theorem h_X5_servingCost_X9 : ∀ w ∈ wsX90, w ∈ wsX5_servingCost := by decide +kernel
set_option maxRecDepth 20000 in
theorem k_X5_servingCost_38 : ZF wsX5_servingCost RX5 38 9 0 RX9 TX9 7 := ⟨rfl, by decide, h_X5_servingCost_X9, by decide +kernel⟩
set_option maxRecDepth 20000 in
theorem k_X5_servingCost_48 : ZF wsX5_servingCost RX5 48 9 2 RX9 TX9 7 := ⟨rfl, by decide, h_X5_servingCost_X9, by decide +kernel⟩
set_option maxRecDepth 20000 in
theorem h_X5_servingCost_X4 : ∀ w ∈ wsX40, w ∈ wsX5_servingCost := by decide +kernel
set_option maxRecDepth 20000 in
theorem k_X5_servingCost_57 : ZF wsX5_servingCost RX5 57 4 1 RX4 TX4 5 := ⟨rfl, by decide, h_X5_servingCost_X4, by decide +kernel⟩
set_option maxRecDepth 20000 in
theorem h_X5_servingCost_X10 : ∀ w ∈ wsX100, w ∈ wsX5_servingCost := by decide +kernel
set_option maxRecDepth 20000 in
theorem k_X5_servingCost_83 : ZF wsX5_servingCost RX5 83 10 3 RX10 TX10 5 := ⟨rfl, by decide, h_X5_servingCost_X10, by decide +kernel⟩
set_option maxHeartbeats 8000000 in
set_option maxRecDepth 100000 in
theorem c_X5_servingCost (l : Launch) (D : va_G) (cA : Nat → ClassId) (g : Nat → Nat) (sz : Nat) (h_t : Nat) (a_t : Nat → Nat) (n_t : Nat) (o_t : Ob) (h_p1 : Nat) (a_p1 : Nat → Nat) (o_p1 : Ob) (a_p1_wares : Nat → Nat) (o_p1_wares : Ob) (a_p1_log : Nat → Nat) (o_p1_log : Ob) (v2 : Int32) (rv : Int32) (hF : f_X5_servingCost o_t o_p1_wares o_p1_log v2 = some rv) : Met l yX5_servingCost wsX5_servingCost ({ frames := 0, cells := 0, slots := 0, locals := 0 }) (va_Pc [.ref h_t, .ref h_p1, .int v2] (PreW D cA g sz (w_X5_servingCost cA h_t a_t n_t o_t h_p1 a_p1 o_p1 a_p1_wares o_p1_wares a_p1_log o_p1_log))) (va_Qi (fun (r : Int32) (_ : Unit) => r = rv) (PostW D cA sz (w_X5_servingCost cA h_t a_t n_t o_t h_p1 a_p1 o_p1 a_p1_wares o_p1_wares a_p1_log o_p1_log) (w_X5_servingCost cA h_t a_t n_t o_t h_p1 a_p1 o_p1 a_p1_wares o_p1_wares a_p1_log o_p1_log)) (va_A (w_X5_servingCost cA h_t a_t n_t o_t h_p1 a_p1 o_p1 a_p1_wares o_p1_wares a_p1_log o_p1_log) sz)) 0 0 (va_A (w_X5_servingCost cA h_t a_t n_t o_t h_p1 a_p1 o_p1 a_p1_wares o_p1_wares a_p1_log o_p1_log) sz) := by
  refine z_start (cc := cX5_servingCost) (maxL := 4) (ret := (some .int)) (lv0 := [(0, .ref h_t), (1, .ref h_p1), (2, .int v2)]) (Qc := fun sz => va_Qi (fun (r : Int32) (_ : Unit) => r = rv) (PostW D cA sz (w_X5_servingCost cA h_t a_t n_t o_t h_p1 a_p1 o_p1 a_p1_wares o_p1_wares a_p1_log o_p1_log) (w_X5_servingCost cA h_t a_t n_t o_t h_p1 a_p1 o_p1 a_p1_wares o_p1_wares a_p1_log o_p1_log)) (va_A (w_X5_servingCost cA h_t a_t n_t o_t h_p1 a_p1 o_p1 a_p1_wares o_p1_wares a_p1_log o_p1_log) sz)) (free := fun sz => va_A (w_X5_servingCost cA h_t a_t n_t o_t h_p1 a_p1 o_p1 a_p1_wares o_p1_wares a_p1_log o_p1_log) sz) (by decide +kernel) rfl rfl (Nat.le_of_ble_eq_true rfl) ?_
  intro p e R s m args below meth c A Q hR hA hQ X hr hin
  unfold f_X5_servingCost at hF
  refine z_aload_n X dX5_servingCost_0 rfl 1 rfl ?_
  refine z_get (v := .ref (a_p1 2)) X k_X5_servingCost_48 6 rfl rfl dX5_servingCost_1 ?_
  refine z_get (v := .ref (a_p1_log 1)) X k_X5_servingCost_57 13 rfl rfl dX5_servingCost_4 ?_
  refine z_iload_n X dX5_servingCost_7 rfl 2 rfl ?_
  obtain ⟨g1, hF⟩ := gi_e hF
  refine z_iald X 14 rfl g1 dX5_servingCost_8 ?_
  obtain ⟨x2, ex2, hF⟩ := nx_e hF
  refine z_nm ex2 ?_
  refine z_istore_n (lv' := [(3, .int x2), (0, .ref h_t), (1, .ref h_p1), (2, .int v2)]) X dX5_servingCost_9 rfl (by decide) rfl ?_
  refine z_aload_n X dX5_servingCost_10 rfl 1 rfl ?_
  refine z_get (v := .ref (a_t 9)) X k_X5_servingCost_28 0 rfl rfl dX5_servingCost_11 ?_
  refine z_iload_n X dX5_servingCost_14 rfl 3 rfl ?_
  obtain ⟨g3, hF⟩ := gi_e hF
  refine z_iald X 5 rfl g3 dX5_servingCost_15 ?_
  refine z_iload_n X dX5_servingCost_16 rfl 0 rfl ?_
  refine z_ishr X dX5_servingCost_17 ?_
  refine z_iconst (v := (1 : Int32)) X dX5_servingCost_18 (by decide) ?_
  refine z_iand X dX5_servingCost_19 ?_
  refine z_iconst (v := (1 : Int32)) X dX5_servingCost_20 (by decide) ?_
  have hF := if_e hF
  refine z_icmp_ne (tgt := 28) X dX5_servingCost_21 (by decide) (fun c5 => ?_) (fun c5 => ?_)
  · have hF := hF.2 c5
    refine z_aload_n X dX5_servingCost_28 rfl 2 rfl ?_
    refine z_get (v := .ref (a_p1 0)) X k_X5_servingCost_38 6 rfl rfl dX5_servingCost_29 ?_
    refine z_get (v := .ref (a_p1_wares 3)) X k_X5_servingCost_83 8 rfl rfl dX5_servingCost_32 ?_
    refine z_iload_n X dX5_servingCost_35 rfl 0 rfl ?_
    obtain ⟨g4, hF⟩ := gi_e hF
    refine z_iald X 11 rfl g4 dX5_servingCost_36 ?_
    cases hF
    exact z_iret X hA hQ hr rfl dX5_servingCost_37 (Nat.le_refl _) (Nat.le_refl _)
  · have hF := hF.1 c5
    refine z_iconst (v := (0 : Int32)) X dX5_servingCost_24 (by decide) ?_
    refine z_goto (tgt := 37) X dX5_servingCost_25 (by decide) ?_
    cases hF
    exact z_iret X hA hQ hr rfl dX5_servingCost_37 (Nat.le_refl _) (Nat.le_refl _)
set_option maxRecDepth 20000 in
theorem h_X5_firstAhead_X5 : ∀ w ∈ wsX50, w ∈ wsX5_firstAhead := by decide +kernel
set_option maxRecDepth 20000 in
theorem k_X5_firstAhead_15 : ZF wsX5_firstAhead RX5 15 5 3 RX5 TX5 10 := ⟨rfl, by decide, h_X5_firstAhead_X5, by decide +kernel⟩
set_option maxRecDepth 20000 in
theorem k_X5_firstAhead_18 : ZF wsX5_firstAhead RX5 18 5 4 RX5 TX5 10 := ⟨rfl, by decide, h_X5_firstAhead_X5, by decide +kernel⟩
set_option maxRecDepth 20000 in
theorem k_X5_firstAhead_35 : ZF wsX5_firstAhead RX5 35 5 1 RX5 TX5 10 := ⟨rfl, by decide, h_X5_firstAhead_X5, by decide +kernel⟩
set_option maxRecDepth 20000 in
theorem k_X5_firstAhead_101 : ZF wsX5_firstAhead RX5 101 5 5 RX5 TX5 10 := ⟨rfl, by decide, h_X5_firstAhead_X5, by decide +kernel⟩
set_option maxHeartbeats 8000000 in
set_option maxRecDepth 100000 in
theorem c_X5_firstAhead (l : Launch) (D : va_G) (cA : Nat → ClassId) (g : Nat → Nat) (sz : Nat) (h_t : Nat) (a_t : Nat → Nat) (n_t : Nat) (o_t : Ob) (v1 : Int32) (v2 : Int32) (v3 : Int32) (rv : Int32) (hF : f_X5_firstAhead n_t o_t v1 v2 v3 = some rv) : Met l yX5_firstAhead wsX5_firstAhead ({ frames := 0, cells := 0, slots := 0, locals := 0 }) (va_Pc [.ref h_t, .int v1, .int v2, .int v3] (PreW D cA g sz (w_X5_forget cA h_t a_t n_t o_t))) (va_Qi (fun (r : Int32) (_ : Unit) => r = rv) (PostW D cA sz (w_X5_forget cA h_t a_t n_t o_t) (w_X5_forget cA h_t a_t n_t o_t)) (va_A (w_X5_forget cA h_t a_t n_t o_t) sz)) 0 0 (va_A (w_X5_forget cA h_t a_t n_t o_t) sz) := by
  refine z_start (cc := cX5_firstAhead) (maxL := 6) (ret := (some .int)) (lv0 := [(0, .ref h_t), (1, .int v1), (2, .int v2), (3, .int v3)]) (Qc := fun sz => va_Qi (fun (r : Int32) (_ : Unit) => r = rv) (PostW D cA sz (w_X5_forget cA h_t a_t n_t o_t) (w_X5_forget cA h_t a_t n_t o_t)) (va_A (w_X5_forget cA h_t a_t n_t o_t) sz)) (free := fun sz => va_A (w_X5_forget cA h_t a_t n_t o_t) sz) (by decide +kernel) rfl rfl (Nat.le_of_ble_eq_true rfl) ?_
  intro p e R s m args below meth c A Q hR hA hQ X hr hin
  unfold f_X5_firstAhead at hF
  refine z_iconst (v := (0 : Int32)) X dX5_firstAhead_0 (by decide) ?_
  refine z_istore (lv' := [(4, .int (0 : Int32)), (0, .ref h_t), (1, .int v1), (2, .int v2), (3, .int v3)]) X dX5_firstAhead_1 (by decide) rfl ?_
  obtain ⟨z20, hL, hFx, L11_r⟩ := ze0_e hF
  have L11_x : ∀ (_ : True), z20 = .inl () → ZW p l e R s m args below meth c D A 6 0 0 Q (w_X5_forget cA h_t a_t n_t o_t) [] 55 [] := by
    intro _ hz
    have hF := hFx  hz
    refine z_iconst (v := (0 : Int32)) X dX5_firstAhead_55 (by decide) ?_
    cases hF
    exact z_iret X hA hQ hr rfl dX5_firstAhead_56 (Nat.le_refl _) (Nat.le_refl _)
  obtain ⟨B21, hBB21, hL⟩ := zl1_b hL
  have L11 : ∀ (n : Nat) (k10 : Int32), zl1 B21 n k10 = some z20 → ZW p l e R s m args below meth c D A 6 0 0 Q (w_X5_forget cA h_t a_t n_t o_t) [(0, .ref h_t), (1, .int v1), (2, .int v2), (3, .int v3), (4, .int k10)] 3 [] := by
    intro n
    induction n with
    | zero => intro k10 hL; cases hL
    | succ n ih =>
      intro k10 hL
      obtain ⟨zz12, hF, hL⟩ := zl1_e hL
      rw [hBB21] at hF
      refine z_iload X dX5_firstAhead_3 4 rfl ?_
      refine z_aload_n X dX5_firstAhead_5 rfl 0 rfl ?_
      refine z_get (v := .int (o_t 5 0)) X k_X5_firstAhead_101 0 rfl rfl dX5_firstAhead_6 ?_
      have hF := if_e hF
      refine z_icmp_ge (tgt := 55) X dX5_firstAhead_9 (by decide) (fun c19 => ?_) (fun c19 => ?_)
      · have hF := hF.1 c19
        cases hF
        have hL := Option.some.inj hL
        refine z_lv (lv' := []) [] rfl ?_
        exact L11_x trivial hL.symm
      · have hF := hF.2 c19
        refine z_aload_n X dX5_firstAhead_12 rfl 0 rfl ?_
        refine z_get (v := .ref (a_t 4)) X k_X5_firstAhead_18 0 rfl rfl dX5_firstAhead_13 ?_
        refine z_iload X dX5_firstAhead_16 4 rfl ?_
        obtain ⟨g13, hF⟩ := gi_e hF
        refine z_iald X 4 rfl g13 dX5_firstAhead_18 ?_
        obtain ⟨x14, ex14, hF⟩ := nx_e hF
        refine z_nm ex14 ?_
        refine z_istore (lv' := [(5, .int x14), (0, .ref h_t), (1, .int v1), (2, .int v2), (3, .int v3), (4, .int k10)]) X dX5_firstAhead_19 (by decide) rfl ?_
        refine z_aload_n X dX5_firstAhead_21 rfl 1 rfl ?_
        refine z_get (v := .ref (a_t 1)) X k_X5_firstAhead_35 0 rfl rfl dX5_firstAhead_22 ?_
        refine z_iload_n X dX5_firstAhead_25 rfl 2 rfl ?_
        refine z_iload X dX5_firstAhead_26 0 rfl ?_
        refine z_iadd X dX5_firstAhead_28 ?_
        obtain ⟨g15, hF⟩ := gi_e hF
        refine z_iald X 1 rfl g15 dX5_firstAhead_29 ?_
        refine z_aload_n X dX5_firstAhead_30 rfl 1 rfl ?_
        refine z_get (v := .ref (a_t 3)) X k_X5_firstAhead_15 0 rfl rfl dX5_firstAhead_31 ?_
        refine z_iload_n X dX5_firstAhead_34 rfl 3 rfl ?_
        refine z_iload X dX5_firstAhead_35 0 rfl ?_
        refine z_iconst (v := (-1 : Int32)) X dX5_firstAhead_37 (by decide) ?_
        refine z_ixor X dX5_firstAhead_38 ?_
        refine z_iand X dX5_firstAhead_39 ?_
        obtain ⟨g16, hF⟩ := gi_e hF
        refine z_iald X 3 rfl g16 dX5_firstAhead_40 ?_
        refine z_iadd X dX5_firstAhead_41 ?_
        refine z_iload_n X dX5_firstAhead_42 rfl 4 rfl ?_
        have hF := if_e hF
        refine z_icmp_ne (tgt := 49) X dX5_firstAhead_43 (by decide) (fun c18 => ?_) (fun c18 => ?_)
        · have hF := hF.2 c18
          obtain ⟨x17, ex17, hF⟩ := nx_e hF
          refine z_iinc (v := x17) (lv' := [(4, .int x17), (5, .int x14), (0, .ref h_t), (1, .int v1), (2, .int v2), (3, .int v3)]) (j := 5) X dX5_firstAhead_49 rfl (by rw [ex17]; rfl) (by decide) rfl ?_
          refine z_goto (tgt := 3) X dX5_firstAhead_52 (by decide) ?_
          cases hF
          refine z_lv (lv' := [(0, .ref h_t), (1, .int v1), (2, .int v2), (3, .int v3), (4, .int x17)]) [2, 3, 4, 5, 0] rfl ?_
          exact ih x17 hL
        · have hF := hF.1 c18
          refine z_iload X dX5_firstAhead_46 0 rfl ?_
          cases hF
          have hL := (Option.some.inj hL).symm
          have hF := L11_r _ hL
          cases hF
          exact z_iret X hA hQ hr rfl dX5_firstAhead_48 (Nat.le_refl _) (Nat.le_refl _)
  refine z_lv (lv' := [(0, .ref h_t), (1, .int v1), (2, .int v2), (3, .int v3), (4, .int (0 : Int32))]) [1, 2, 3, 4, 0] rfl ?_
  exact L11 FU (0 : Int32) hL
set_option maxRecDepth 20000 in
theorem h_X5_trace_X5 : ∀ w ∈ wsX50, w ∈ wsX5_trace := by decide +kernel
set_option maxRecDepth 20000 in
theorem k_X5_trace_21 : ZF wsX5_trace RX5 21 5 7 RX5 TX5 10 := ⟨rfl, by decide, h_X5_trace_X5, by decide +kernel⟩
set_option maxRecDepth 20000 in
theorem k_X5_trace_25 : ZF wsX5_trace RX5 25 5 8 RX5 TX5 10 := ⟨rfl, by decide, h_X5_trace_X5, by decide +kernel⟩
set_option maxRecDepth 20000 in
theorem k_X5_trace_28 : ZF wsX5_trace RX5 28 5 9 RX5 TX5 10 := ⟨rfl, by decide, h_X5_trace_X5, by decide +kernel⟩
set_option maxRecDepth 20000 in
theorem k_X5_trace_35 : ZF wsX5_trace RX5 35 5 1 RX5 TX5 10 := ⟨rfl, by decide, h_X5_trace_X5, by decide +kernel⟩
set_option maxHeartbeats 8000000 in
set_option maxRecDepth 100000 in
theorem c_X5_trace (l : Launch) (D : va_G) (cA : Nat → ClassId) (g : Nat → Nat) (sz : Nat) (h_t : Nat) (a_t : Nat → Nat) (n_t : Nat) (o_t : Ob) (h_p1 : Nat) (a_p1 : Nat → Nat) (o_p1 : Ob) (a_p1_wares : Nat → Nat) (o_p1_wares : Ob) (a_p1_log : Nat → Nat) (o_p1_log : Ob)  (o_t' : Ob) (hF : f_X5_trace n_t o_t o_p1_wares o_p1_log = some o_t') : Met l yX5_trace wsX5_trace ({ frames := 2, cells := 0, slots := 0, locals := 44 }) (va_Pc [.ref h_t, .ref h_p1] (PreW D cA g sz (w_X5_servingCost cA h_t a_t n_t o_t h_p1 a_p1 o_p1 a_p1_wares o_p1_wares a_p1_log o_p1_log))) (va_Qv (fun (_ : Unit) => True) (PostW D cA sz (w_X5_servingCost cA h_t a_t n_t o_t h_p1 a_p1 o_p1 a_p1_wares o_p1_wares a_p1_log o_p1_log) (w_X5_servingCost cA h_t a_t n_t o_t' h_p1 a_p1 o_p1 a_p1_wares o_p1_wares a_p1_log o_p1_log)) (va_A (w_X5_servingCost cA h_t a_t n_t o_t h_p1 a_p1 o_p1 a_p1_wares o_p1_wares a_p1_log o_p1_log) sz)) 0 0 (va_A (w_X5_servingCost cA h_t a_t n_t o_t h_p1 a_p1 o_p1 a_p1_wares o_p1_wares a_p1_log o_p1_log) sz) := by
  refine z_start (cc := cX5_trace) (maxL := 4) (ret := none) (lv0 := [(0, .ref h_t), (1, .ref h_p1)]) (Qc := fun sz => va_Qv (fun (_ : Unit) => True) (PostW D cA sz (w_X5_servingCost cA h_t a_t n_t o_t h_p1 a_p1 o_p1 a_p1_wares o_p1_wares a_p1_log o_p1_log) (w_X5_servingCost cA h_t a_t n_t o_t' h_p1 a_p1 o_p1 a_p1_wares o_p1_wares a_p1_log o_p1_log)) (va_A (w_X5_servingCost cA h_t a_t n_t o_t h_p1 a_p1 o_p1 a_p1_wares o_p1_wares a_p1_log o_p1_log) sz)) (free := fun sz => va_A (w_X5_servingCost cA h_t a_t n_t o_t h_p1 a_p1 o_p1 a_p1_wares o_p1_wares a_p1_log o_p1_log) sz) (by decide +kernel) rfl rfl (Nat.le_of_ble_eq_true rfl) ?_
  intro p e R s m args below meth c A Q hR hA hQ X hr hin
  unfold f_X5_trace at hF
  refine z_aload_n X dX5_trace_0 rfl 0 rfl ?_
  refine z_get (v := .int (o_t 8 0)) X k_X5_trace_25 0 rfl rfl dX5_trace_1 ?_
  refine z_aload_n X dX5_trace_4 rfl 0 rfl ?_
  refine z_get (v := .int (o_t 7 0)) X k_X5_trace_21 0 rfl rfl dX5_trace_5 ?_
  have hF := if_e hF
  refine z_icmp_eq (tgt := 19) X dX5_trace_8 (by decide) (fun c55 => ?_) (fun c55 => ?_)
  · have hF := hF.1 c55
    cases hF
    exact z_vret X hA hQ hr dX5_trace_19 (Nat.le_refl _) (Nat.le_refl _)
  · have hF := hF.2 c55
    refine z_aload_n X dX5_trace_11 rfl 0 rfl ?_
    refine z_get (v := .int (o_t 7 0)) X k_X5_trace_21 0 rfl rfl dX5_trace_12 ?_
    refine z_iconst (v := (1 : Int32)) X dX5_trace_15 (by decide) ?_
    have hF := if_e hF
    refine z_icmp_ge (tgt := 20) X dX5_trace_16 (by decide) (fun c54 => ?_) (fun c54 => ?_)
    · have hF := hF.1 c54
      refine z_aload_n X dX5_trace_20 rfl 0 rfl ?_
      refine z_get (v := .ref (a_t 9)) X k_X5_trace_28 0 rfl rfl dX5_trace_21 ?_
      refine z_aload_n X dX5_trace_24 rfl 0 rfl ?_
      refine z_get (v := .int (o_t 7 0)) X k_X5_trace_21 0 rfl rfl dX5_trace_25 ?_
      refine z_iconst (v := (1 : Int32)) X dX5_trace_28 (by decide) ?_
      refine z_isub X dX5_trace_29 ?_
      refine z_aload_n X dX5_trace_30 rfl 0 rfl ?_
      refine z_aload_n X dX5_trace_31 rfl 0 rfl ?_
      refine z_get (v := .int (o_t 7 0)) X k_X5_trace_21 0 rfl rfl dX5_trace_32 ?_
      obtain ⟨r1, hc2, hF⟩ := zb1_e hF
      refine z_Vi (As := [.int (o_t 7 0)]) (rest := [.int ((o_t 7 0) - (1 : Int32)), .ref (a_t 9)]) (wc := (w_X5_forget cA h_t a_t n_t o_t)) (wc' := (w_X5_forget cA h_t a_t n_t o_t)) (ws' := (w_X5_servingCost cA h_t a_t n_t o_t h_p1 a_p1 o_p1 a_p1_wares o_p1_wares a_p1_log o_p1_log)) (rv := r1) X (cwV 1 X.2.2.2.2.1 gX5_trace_X5_leastSet rfl rfl rfl (by decide +kernel) (by rw [hR]; exact ⟨Nat.le_of_ble_eq_true rfl, Nat.le_of_ble_eq_true rfl⟩)) (fun sz => c_X5_leastSet l D cA g sz h_t a_t n_t o_t (o_t 7 0) r1 hc2) [0, 1, 2, 3, 4, 5] [1000, 1001, 1002, 1003, 1004, 1005, 6, 7, 8, 9, 10, 11, 12, 13, 14, 15, 16, 17] rfl (by decide) rfl (by decide) rfl rfl rfl rfl rfl rfl (Nat.le_of_ble_eq_true rfl) dX5_trace_35 ⟨Nat.zero_le _, Nat.zero_le _⟩ ?_
      obtain ⟨g3, hF⟩ := gi_e hF
      obtain ⟨o4, eo4, hF⟩ := nx_e hF
      refine z_iast (ws' := (w_X5_servingCost cA h_t a_t n_t o4 h_p1 a_p1 o_p1 a_p1_wares o_p1_wares a_p1_log o_p1_log)) X 5 rfl g3 (by rw [eo4]; rfl) dX5_trace_38 ?_
      refine z_aload_n X dX5_trace_39 rfl 0 rfl ?_
      refine z_get (v := .int (o4 7 0)) X k_X5_trace_21 0 rfl rfl dX5_trace_40 ?_
      refine z_iconst (v := (1 : Int32)) X dX5_trace_43 (by decide) ?_
      refine z_isub X dX5_trace_44 ?_
      obtain ⟨x5, ex5, hF⟩ := nx_e hF
      refine z_nm ex5 ?_
      refine z_istore_n (lv' := [(2, .int x5), (0, .ref h_t), (1, .ref h_p1)]) X dX5_trace_45 rfl (by decide) rfl ?_
      obtain ⟨o33, hL, hF⟩ := zb1_e hF
      have L35_x : ∀ (o33' : Ob), o33' = o33 → ZW p l e R s m args below meth c D A 4 0 0 Q (w_X5_servingCost cA h_t a_t n_t o33' h_p1 a_p1 o_p1 a_p1_wares o_p1_wares a_p1_log o_p1_log) [(0, .ref h_t)] 107 [] := by
        intro o33' hz
        cases hz
        refine z_aload_n X dX5_trace_107 rfl 0 rfl ?_
        refine z_aload_n X dX5_trace_108 rfl 0 rfl ?_
        refine z_get (v := .int (o33 7 0)) X k_X5_trace_21 0 rfl rfl dX5_trace_109 ?_
        obtain ⟨o34, eo34, hF⟩ := nx_e hF
        refine z_put (ws' := (w_X5_servingCost cA h_t a_t n_t o34 h_p1 a_p1 o_p1 a_p1_wares o_p1_wares a_p1_log o_p1_log)) X k_X5_trace_25 tyX5 tyX5_ok nmX5 rfl rfl 0 rfl (Nat.le_of_ble_eq_true rfl) (by rw [eo34]; rfl) dX5_trace_112 ?_
        cases hF
        exact z_vret X hA hQ hr dX5_trace_115 (Nat.le_refl _) (Nat.le_refl _)
      obtain ⟨B53, hBB53, hL⟩ := zl2_b hL
      have L35 : ∀ (n : Nat) (o31 : Ob) (k32 : Int32), zl2 B53 n o31 k32 = some o33 → ZW p l e R s m args below meth c D A 4 0 0 Q (w_X5_servingCost cA h_t a_t n_t o31 h_p1 a_p1 o_p1 a_p1_wares o_p1_wares a_p1_log o_p1_log) [(0, .ref h_t), (1, .ref h_p1), (2, .int k32)] 46 [] := by
        intro n
        induction n with
        | zero => intro o31 k32 hL; cases hL
        | succ n ih =>
          intro o31 k32 hL
          obtain ⟨zz36, hF, hL⟩ := zl2_e hL
          rw [hBB53] at hF
          refine z_iload_n X dX5_trace_46 rfl 2 rfl ?_
          have hF := if_e hF
          refine z_if_le (tgt := 107) X dX5_trace_47 (by decide) (fun c52 => ?_) (fun c52 => ?_)
          · have hF := hF.1 c52
            cases hF
            have hL := Option.some.inj hL
            refine z_lv (lv' := [(0, .ref h_t)]) [0] rfl ?_
            exact L35_x o31 hL
          · have hF := hF.2 c52
            refine z_aload_n X dX5_trace_50 rfl 0 rfl ?_
            refine z_get (v := .ref (a_t 1)) X k_X5_trace_35 0 rfl rfl dX5_trace_51 ?_
            refine z_aload_n X dX5_trace_54 rfl 0 rfl ?_
            refine z_iload_n X dX5_trace_55 rfl 2 rfl ?_
            refine z_iconst (v := (1 : Int32)) X dX5_trace_56 (by decide) ?_
            refine z_iadd X dX5_trace_57 ?_
            obtain ⟨r37, hc38, hF⟩ := zb1_e hF
            refine z_Vi (As := [.int (k32 + (1 : Int32))]) (rest := [.ref (a_t 1)]) (wc := (w_X5_forget cA h_t a_t n_t o31)) (wc' := (w_X5_forget cA h_t a_t n_t o31)) (ws' := (w_X5_servingCost cA h_t a_t n_t o31 h_p1 a_p1 o_p1 a_p1_wares o_p1_wares a_p1_log o_p1_log)) (rv := r37) X (cwV 1 X.2.2.2.2.1 gX5_trace_X5_row rfl rfl rfl (by decide +kernel) (by rw [hR]; exact ⟨Nat.le_of_ble_eq_true rfl, Nat.le_of_ble_eq_true rfl⟩)) (fun sz => c_X5_row l D cA g sz h_t a_t n_t o31 (k32 + (1 : Int32)) r37 hc38) [0, 1, 2, 3, 4, 5] [1000, 1001, 1002, 1003, 1004, 1005, 6, 7, 8, 9, 10, 11, 12, 13, 14, 15, 16, 17] rfl (by decide) rfl (by decide) rfl rfl rfl rfl rfl rfl (Nat.le_of_ble_eq_true rfl) dX5_trace_58 ⟨Nat.zero_le _, Nat.zero_le _⟩ ?_
            refine z_aload_n X dX5_trace_61 rfl 0 rfl ?_
            refine z_get (v := .ref (a_t 9)) X k_X5_trace_28 0 rfl rfl dX5_trace_62 ?_
            refine z_iload_n X dX5_trace_65 rfl 2 rfl ?_
            obtain ⟨g39, hF⟩ := gi_e hF
            refine z_iald X 5 rfl g39 dX5_trace_66 ?_
            refine z_iadd X dX5_trace_67 ?_
            obtain ⟨g40, hF⟩ := gi_e hF
            refine z_iald X 1 rfl g40 dX5_trace_68 ?_
            refine z_aload_n X dX5_trace_69 rfl 0 rfl ?_
            refine z_aload_n X dX5_trace_70 rfl 1 rfl ?_
            refine z_iload_n X dX5_trace_71 rfl 2 rfl ?_
            obtain ⟨r41, hc42, hF⟩ := zb1_e hF
            refine z_Vi (As := [.ref h_p1, .int k32]) (rest := [.int (o31 1 (Int32.toNatClampNeg (r37 + (o31 9 (Int32.toNatClampNeg k32)))))]) (wc := (w_X5_servingCost cA h_t a_t n_t o31 h_p1 a_p1 o_p1 a_p1_wares o_p1_wares a_p1_log o_p1_log)) (wc' := (w_X5_servingCost cA h_t a_t n_t o31 h_p1 a_p1 o_p1 a_p1_wares o_p1_wares a_p1_log o_p1_log)) (ws' := (w_X5_servingCost cA h_t a_t n_t o31 h_p1 a_p1 o_p1 a_p1_wares o_p1_wares a_p1_log o_p1_log)) (rv := r41) X (cwV 2 X.2.2.2.2.1 gX5_trace_X5_servingCost rfl rfl rfl (by decide +kernel) (by rw [hR]; exact ⟨Nat.le_of_ble_eq_true rfl, Nat.le_of_ble_eq_true rfl⟩)) (fun sz => c_X5_servingCost l D cA g sz h_t a_t n_t o31 h_p1 a_p1 o_p1 a_p1_wares o_p1_wares a_p1_log o_p1_log k32 r41 hc42) [0, 1, 2, 3, 4, 5, 6, 7, 8, 9, 10, 11, 12, 13, 14, 15, 16, 17] [1000, 1001, 1002, 1003, 1004, 1005, 1006, 1007, 1008, 1009, 1010, 1011, 1012, 1013, 1014, 1015, 1016, 1017] rfl (by decide) rfl (by decide) rfl rfl rfl rfl rfl rfl (Nat.le_of_ble_eq_true rfl) dX5_trace_72 ⟨Nat.zero_le _, Nat.zero_le _⟩ ?_
            refine z_isub X dX5_trace_75 ?_
            obtain ⟨x43, ex43, hF⟩ := nx_e hF
            refine z_nm ex43 ?_
            refine z_istore_n (lv' := [(3, .int x43), (0, .ref h_t), (1, .ref h_p1), (2, .int k32)]) X dX5_trace_76 rfl (by decide) rfl ?_
            refine z_aload_n X dX5_trace_77 rfl 1 rfl ?_
            refine z_get (v := .ref (a_t 9)) X k_X5_trace_28 0 rfl rfl dX5_trace_78 ?_
            refine z_iload_n X dX5_trace_81 rfl 3 rfl ?_
            refine z_iconst (v := (1 : Int32)) X dX5_trace_82 (by decide) ?_
            refine z_isub X dX5_trace_83 ?_
            refine z_aload_n X dX5_trace_84 rfl 1 rfl ?_
            refine z_aload_n X dX5_trace_85 rfl 1 rfl ?_
            refine z_iload_n X dX5_trace_86 rfl 3 rfl ?_
            obtain ⟨r44, hc45, hF⟩ := zb1_e hF
            refine z_Vi (As := [.int k32]) (rest := [.ref h_t, .int (k32 - (1 : Int32)), .ref (a_t 9)]) (wc := (w_X5_forget cA h_t a_t n_t o31)) (wc' := (w_X5_forget cA h_t a_t n_t o31)) (ws' := (w_X5_servingCost cA h_t a_t n_t o31 h_p1 a_p1 o_p1 a_p1_wares o_p1_wares a_p1_log o_p1_log)) (rv := r44) X (cwV 1 X.2.2.2.2.1 gX5_trace_X5_row rfl rfl rfl (by decide +kernel) (by rw [hR]; exact ⟨Nat.le_of_ble_eq_true rfl, Nat.le_of_ble_eq_true rfl⟩)) (fun sz => c_X5_row l D cA g sz h_t a_t n_t o31 k32 r44 hc45) [0, 1, 2, 3, 4, 5] [1000, 1001, 1002, 1003, 1004, 1005, 6, 7, 8, 9, 10, 11, 12, 13, 14, 15, 16, 17] rfl (by decide) rfl (by decide) rfl rfl rfl rfl rfl rfl (Nat.le_of_ble_eq_true rfl) dX5_trace_87 ⟨Nat.zero_le _, Nat.zero_le _⟩ ?_
            refine z_aload_n X dX5_trace_90 rfl 1 rfl ?_
            refine z_get (v := .ref (a_t 9)) X k_X5_trace_28 0 rfl rfl dX5_trace_91 ?_
            refine z_iload_n X dX5_trace_94 rfl 3 rfl ?_
            obtain ⟨g46, hF⟩ := gi_e hF
            refine z_iald X 5 rfl g46 dX5_trace_95 ?_
            refine z_iload_n X dX5_trace_96 rfl 0 rfl ?_
            obtain ⟨r47, hc48, hF⟩ := zb1_e hF
            refine z_Vi (As := [.int r44, .int (o31 9 (Int32.toNatClampNeg k32)), .int x43]) (rest := [.int (k32 - (1 : Int32)), .ref (a_t 9)]) (wc := (w_X5_forget cA h_t a_t n_t o31)) (wc' := (w_X5_forget cA h_t a_t n_t o31)) (ws' := (w_X5_servingCost cA h_t a_t n_t o31 h_p1 a_p1 o_p1 a_p1_wares o_p1_wares a_p1_log o_p1_log)) (rv := r47) X (cwV 3 X.2.2.2.2.1 gX5_trace_X5_firstAhead rfl rfl rfl (by decide +kernel) (by rw [hR]; exact ⟨Nat.le_of_ble_eq_true rfl, Nat.le_of_ble_eq_true rfl⟩)) (fun sz => c_X5_firstAhead l D cA g sz h_t a_t n_t o31 r44 (o31 9 (Int32.toNatClampNeg k32)) x43 r47 hc48) [0, 1, 2, 3, 4, 5] [1000, 1001, 1002, 1003, 1004, 1005, 6, 7, 8, 9, 10, 11, 12, 13, 14, 15, 16, 17] rfl (by decide) rfl (by decide) rfl rfl rfl rfl rfl rfl (Nat.le_of_ble_eq_true rfl) dX5_trace_97 ⟨Nat.zero_le _, Nat.zero_le _⟩ ?_
            obtain ⟨g49, hF⟩ := gi_e hF
            obtain ⟨o50, eo50, hF⟩ := nx_e hF
            refine z_iast (ws' := (w_X5_servingCost cA h_t a_t n_t o50 h_p1 a_p1 o_p1 a_p1_wares o_p1_wares a_p1_log o_p1_log)) X 5 rfl g49 (by rw [eo50]; rfl) dX5_trace_100 ?_
            obtain ⟨x51, ex51, hF⟩ := nx_e hF
            refine z_iinc (v := x51) (lv' := [(2, .int x51), (3, .int x43), (0, .ref h_t), (1, .ref h_p1)]) (j := 3) X dX5_trace_101 rfl (by rw [ex51]; rfl) (by decide) rfl ?_
            refine z_goto (tgt := 46) X dX5_trace_104 (by decide) ?_
            cases hF
            refine z_lv (lv' := [(0, .ref h_t), (1, .ref h_p1), (2, .int x51)]) [2, 3, 0] rfl ?_
            exact ih o50 x51 hL
      refine z_lv (lv' := [(0, .ref h_t), (1, .ref h_p1), (2, .int x5)]) [1, 2, 0] rfl ?_
      exact L35 FU o4 x5 hL
    · have hF := hF.2 c54
      cases hF
      exact z_vret X hA hQ hr dX5_trace_19 (Nat.le_refl _) (Nat.le_refl _)
set_option maxRecDepth 20000 in
theorem h_X5_paysAt_X5 : ∀ w ∈ wsX50, w ∈ wsX5_paysAt := by decide +kernel
set_option maxRecDepth 20000 in
theorem k_X5_paysAt_15 : ZF wsX5_paysAt RX5 15 5 3 RX5 TX5 10 := ⟨rfl, by decide, h_X5_paysAt_X5, by decide +kernel⟩
set_option maxRecDepth 20000 in
theorem k_X5_paysAt_28 : ZF wsX5_paysAt RX5 28 5 9 RX5 TX5 10 := ⟨rfl, by decide, h_X5_paysAt_X5, by decide +kernel⟩
set_option maxHeartbeats 8000000 in
set_option maxRecDepth 100000 in
theorem c_X5_paysAt (l : Launch) (D : va_G) (cA : Nat → ClassId) (g : Nat → Nat) (sz : Nat) (h_t : Nat) (a_t : Nat → Nat) (n_t : Nat) (o_t : Ob) (h_p1 : Nat) (a_p1 : Nat → Nat) (o_p1 : Ob) (a_p1_wares : Nat → Nat) (o_p1_wares : Ob) (a_p1_log : Nat → Nat) (o_p1_log : Ob) (v2 : Int32) (rv : Int32) (hF : f_X5_paysAt o_t o_p1_wares o_p1_log v2 = some rv) : Met l yX5_paysAt wsX5_paysAt ({ frames := 1, cells := 0, slots := 0, locals := 23 }) (va_Pc [.ref h_t, .ref h_p1, .int v2] (PreW D cA g sz (w_X5_servingCost cA h_t a_t n_t o_t h_p1 a_p1 o_p1 a_p1_wares o_p1_wares a_p1_log o_p1_log))) (va_Qi (fun (r : Int32) (_ : Unit) => r = rv) (PostW D cA sz (w_X5_servingCost cA h_t a_t n_t o_t h_p1 a_p1 o_p1 a_p1_wares o_p1_wares a_p1_log o_p1_log) (w_X5_servingCost cA h_t a_t n_t o_t h_p1 a_p1 o_p1 a_p1_wares o_p1_wares a_p1_log o_p1_log)) (va_A (w_X5_servingCost cA h_t a_t n_t o_t h_p1 a_p1 o_p1 a_p1_wares o_p1_wares a_p1_log o_p1_log) sz)) 0 0 (va_A (w_X5_servingCost cA h_t a_t n_t o_t h_p1 a_p1 o_p1 a_p1_wares o_p1_wares a_p1_log o_p1_log) sz) := by
  refine z_start (cc := cX5_paysAt) (maxL := 4) (ret := (some .int)) (lv0 := [(0, .ref h_t), (1, .ref h_p1), (2, .int v2)]) (Qc := fun sz => va_Qi (fun (r : Int32) (_ : Unit) => r = rv) (PostW D cA sz (w_X5_servingCost cA h_t a_t n_t o_t h_p1 a_p1 o_p1 a_p1_wares o_p1_wares a_p1_log o_p1_log) (w_X5_servingCost cA h_t a_t n_t o_t h_p1 a_p1 o_p1 a_p1_wares o_p1_wares a_p1_log o_p1_log)) (va_A (w_X5_servingCost cA h_t a_t n_t o_t h_p1 a_p1 o_p1 a_p1_wares o_p1_wares a_p1_log o_p1_log) sz)) (free := fun sz => va_A (w_X5_servingCost cA h_t a_t n_t o_t h_p1 a_p1 o_p1 a_p1_wares o_p1_wares a_p1_log o_p1_log) sz) (by decide +kernel) rfl rfl (Nat.le_of_ble_eq_true rfl) ?_
  intro p e R s m args below meth c A Q hR hA hQ X hr hin
  unfold f_X5_paysAt at hF
  refine z_iload_n X dX5_paysAt_0 rfl 2 rfl ?_
  obtain ⟨K4, eK4, hF⟩ := nx_e hF
  have K4_l : ∀ (j3 : Int32), K4 j3 = some rv → ZW p l e R s m args below meth c D A 4 0 0 Q (w_X5_servingCost cA h_t a_t n_t o_t h_p1 a_p1 o_p1 a_p1_wares o_p1_wares a_p1_log o_p1_log) [(0, .ref h_t), (1, .ref h_p1), (2, .int v2)] 16 [.int j3] := by
    intro j3 hF
    rw [eK4] at hF
    refine z_istore_n (lv' := [(3, .int j3), (0, .ref h_t), (1, .ref h_p1), (2, .int v2)]) X dX5_paysAt_16 rfl (by decide) rfl ?_
    refine z_aload_n X dX5_paysAt_17 rfl 1 rfl ?_
    refine z_get (v := .ref (a_t 3)) X k_X5_paysAt_15 0 rfl rfl dX5_paysAt_18 ?_
    refine z_aload_n X dX5_paysAt_21 rfl 1 rfl ?_
    refine z_get (v := .ref (a_t 9)) X k_X5_paysAt_28 0 rfl rfl dX5_paysAt_22 ?_
    refine z_iload_n X dX5_paysAt_25 rfl 3 rfl ?_
    obtain ⟨g5, hF⟩ := gi_e hF
    refine z_iald X 5 rfl g5 dX5_paysAt_26 ?_
    refine z_iload_n X dX5_paysAt_27 rfl 0 rfl ?_
    refine z_iconst (v := (-1 : Int32)) X dX5_paysAt_28 (by decide) ?_
    refine z_ixor X dX5_paysAt_29 ?_
    refine z_iand X dX5_paysAt_30 ?_
    obtain ⟨g6, hF⟩ := gi_e hF
    refine z_iald X 3 rfl g6 dX5_paysAt_31 ?_
    refine z_aload_n X dX5_paysAt_32 rfl 1 rfl ?_
    refine z_aload_n X dX5_paysAt_33 rfl 2 rfl ?_
    refine z_iload_n X dX5_paysAt_34 rfl 3 rfl ?_
    obtain ⟨r7, hc8, hF⟩ := zb1_e hF
    refine z_Vi (As := [.ref h_p1, .int v2]) (rest := [.int (o_t 3 (Int32.toNatClampNeg ((o_t 9 (Int32.toNatClampNeg v2)) &&& (j3 ^^^ (-1 : Int32)))))]) (wc := (w_X5_servingCost cA h_t a_t n_t o_t h_p1 a_p1 o_p1 a_p1_wares o_p1_wares a_p1_log o_p1_log)) (wc' := (w_X5_servingCost cA h_t a_t n_t o_t h_p1 a_p1 o_p1 a_p1_wares o_p1_wares a_p1_log o_p1_log)) (ws' := (w_X5_servingCost cA h_t a_t n_t o_t h_p1 a_p1 o_p1 a_p1_wares o_p1_wares a_p1_log o_p1_log)) (rv := r7) X (cwV 2 X.2.2.2.2.1 gX5_paysAt_X5_servingCost rfl rfl rfl (by decide +kernel) (by rw [hR]; exact ⟨Nat.le_of_ble_eq_true rfl, Nat.le_of_ble_eq_true rfl⟩)) (fun sz => c_X5_servingCost l D cA g sz h_t a_t n_t o_t h_p1 a_p1 o_p1 a_p1_wares o_p1_wares a_p1_log o_p1_log v2 r7 hc8) [0, 1, 2, 3, 4, 5, 6, 7, 8, 9, 10, 11, 12, 13, 14, 15, 16, 17] [1000, 1001, 1002, 1003, 1004, 1005, 1006, 1007, 1008, 1009, 1010, 1011, 1012, 1013, 1014, 1015, 1016, 1017] rfl (by decide) rfl (by decide) rfl rfl rfl rfl rfl rfl (Nat.le_of_ble_eq_true rfl) dX5_paysAt_35 ⟨Nat.zero_le _, Nat.zero_le _⟩ ?_
    refine z_iadd X dX5_paysAt_38 ?_
    cases hF
    exact z_iret X hA hQ hr rfl dX5_paysAt_39 (Nat.le_refl _) (Nat.le_refl _)
  have hF := if_e hF
  refine z_if_ne (tgt := 8) X dX5_paysAt_1 (by decide) (fun c10 => ?_) (fun c10 => ?_)
  · have hF := hF.2 c10
    refine z_aload_n X dX5_paysAt_8 rfl 0 rfl ?_
    refine z_get (v := .ref (a_t 9)) X k_X5_paysAt_28 0 rfl rfl dX5_paysAt_9 ?_
    refine z_iload_n X dX5_paysAt_12 rfl 2 rfl ?_
    refine z_iconst (v := (1 : Int32)) X dX5_paysAt_13 (by decide) ?_
    refine z_isub X dX5_paysAt_14 ?_
    obtain ⟨g9, hF⟩ := gi_e hF
    refine z_iald X 5 rfl g9 dX5_paysAt_15 ?_
    refine z_lv (lv' := [(0, .ref h_t), (1, .ref h_p1), (2, .int v2)]) [0, 1, 2] rfl ?_
    exact K4_l (o_t 9 (Int32.toNatClampNeg (v2 - (1 : Int32)))) hF
  · have hF := hF.1 c10
    refine z_iconst (v := (0 : Int32)) X dX5_paysAt_4 (by decide) ?_
    refine z_goto (tgt := 16) X dX5_paysAt_5 (by decide) ?_
    refine z_lv (lv' := [(0, .ref h_t), (1, .ref h_p1), (2, .int v2)]) [0, 1, 2] rfl ?_
    exact K4_l (0 : Int32) hF
abbrev w_X6_hasPlaceFor (cA : Nat → ClassId) (h_t : Nat) (a_t : Nat → Nat) (o_t : Ob) : va_W := [(h_t, .inr (6, [.ref (a_t 0), .int (o_t 1 0), .int (o_t 2 0), .int (o_t 3 0), .int (o_t 4 0), .int (o_t 5 0), .int (o_t 6 0), .int (o_t 7 0), .ref (a_t 8), .int (o_t 9 0), .int (o_t 10 0), .ref (a_t 11), .ref (a_t 12), .int (o_t 13 0), .int (o_t 14 0), .int (o_t 15 0), .int (o_t 16 0)])), (a_t 0, .inl (cA 0, 440, .inl (o_t 0))), (a_t 8, .inl (cA 0, 40, .inl (o_t 8))), (a_t 11, .inl (cA 0, 2, .inl (o_t 11))), (a_t 12, .inl (cA 0, 2, .inl (o_t 12)))]
set_option maxRecDepth 20000 in
theorem h_X6_hasPlaceFor_X6 : ∀ w ∈ wsX60, w ∈ wsX6_hasPlaceFor := by decide +kernel
set_option maxRecDepth 20000 in
theorem k_X6_hasPlaceFor_24 : ZF wsX6_hasPlaceFor RX6 24 6 1 RX6 TX6 17 := ⟨rfl, by decide, h_X6_hasPlaceFor_X6, by decide +kernel⟩
set_option maxHeartbeats 8000000 in
set_option maxRecDepth 100000 in
theorem c_X6_hasPlaceFor (l : Launch) (D : va_G) (cA : Nat → ClassId) (g : Nat → Nat) (sz : Nat) (h_t : Nat) (a_t : Nat → Nat) (o_t : Ob) (v1 : Int32) (rv : Int32) (hF : f_X6_hasPlaceFor o_t v1 = some rv) : Met l yX6_hasPlaceFor wsX6_hasPlaceFor ({ frames := 0, cells := 0, slots := 0, locals := 0 }) (va_Pc [.ref h_t, .int v1] (PreW D cA g sz (w_X6_hasPlaceFor cA h_t a_t o_t))) (va_Qi (fun (r : Int32) (_ : Unit) => r = rv) (PostW D cA sz (w_X6_hasPlaceFor cA h_t a_t o_t) (w_X6_hasPlaceFor cA h_t a_t o_t)) (va_A (w_X6_hasPlaceFor cA h_t a_t o_t) sz)) 0 0 (va_A (w_X6_hasPlaceFor cA h_t a_t o_t) sz) := by
  refine z_start (cc := cX6_hasPlaceFor) (maxL := 2) (ret := (some .boolean)) (lv0 := [(0, .ref h_t), (1, .int v1)]) (Qc := fun sz => va_Qi (fun (r : Int32) (_ : Unit) => r = rv) (PostW D cA sz (w_X6_hasPlaceFor cA h_t a_t o_t) (w_X6_hasPlaceFor cA h_t a_t o_t)) (va_A (w_X6_hasPlaceFor cA h_t a_t o_t) sz)) (free := fun sz => va_A (w_X6_hasPlaceFor cA h_t a_t o_t) sz) (by decide +kernel) rfl rfl (Nat.le_of_ble_eq_true rfl) ?_
  intro p e R s m args below meth c A Q hR hA hQ X hr hin
  unfold f_X6_hasPlaceFor at hF
  refine z_aload_n X dX6_hasPlaceFor_0 rfl 0 rfl ?_
  refine z_get (v := .int (o_t 1 0)) X k_X6_hasPlaceFor_24 0 rfl rfl dX6_hasPlaceFor_1 ?_
  refine z_iload_n X dX6_hasPlaceFor_4 rfl 1 rfl ?_
  refine z_iadd X dX6_hasPlaceFor_5 ?_
  refine z_sipush (v := (440 : Int32)) X dX6_hasPlaceFor_6 (by decide) ?_
  have hF := if_e hF
  refine z_icmp_gt (tgt := 16) X dX6_hasPlaceFor_9 (by decide) (fun c1 => ?_) (fun c1 => ?_)
  · have hF := hF.1 c1
    refine z_iconst (v := (0 : Int32)) X dX6_hasPlaceFor_16 (by decide) ?_
    cases hF
    exact z_zret X hA hQ hr (Or.inl rfl)  rfl dX6_hasPlaceFor_17 (Nat.le_refl _) (Nat.le_refl _)
  · have hF := hF.2 c1
    refine z_iconst (v := (1 : Int32)) X dX6_hasPlaceFor_12 (by decide) ?_
    refine z_goto (tgt := 17) X dX6_hasPlaceFor_13 (by decide) ?_
    cases hF
    exact z_zret X hA hQ hr (Or.inr rfl)  rfl dX6_hasPlaceFor_17 (Nat.le_refl _) (Nat.le_refl _)
set_option maxRecDepth 20000 in
theorem h_X6_addNumber_X6 : ∀ w ∈ wsX60, w ∈ wsX6_addNumber := by decide +kernel
set_option maxRecDepth 20000 in
theorem k_X6_addNumber_11 : ZF wsX6_addNumber RX6 11 6 0 RX6 TX6 17 := ⟨rfl, by decide, h_X6_addNumber_X6, by decide +kernel⟩
set_option maxRecDepth 20000 in
theorem k_X6_addNumber_24 : ZF wsX6_addNumber RX6 24 6 1 RX6 TX6 17 := ⟨rfl, by decide, h_X6_addNumber_X6, by decide +kernel⟩
set_option maxHeartbeats 8000000 in
set_option maxRecDepth 100000 in
theorem c_X6_addNumber (l : Launch) (D : va_G) (cA : Nat → ClassId) (g : Nat → Nat) (sz : Nat) (h_t : Nat) (a_t : Nat → Nat) (o_t : Ob) (v1 : Int32) (o_t' : Ob) (hF : f_X6_addNumber o_t v1 = some o_t') : Met l yX6_addNumber wsX6_addNumber ({ frames := 0, cells := 0, slots := 0, locals := 0 }) (va_Pc [.ref h_t, .int v1] (PreW D cA g sz (w_X6_hasPlaceFor cA h_t a_t o_t))) (va_Qv (fun (_ : Unit) => True) (PostW D cA sz (w_X6_hasPlaceFor cA h_t a_t o_t) (w_X6_hasPlaceFor cA h_t a_t o_t')) (va_A (w_X6_hasPlaceFor cA h_t a_t o_t) sz)) 0 0 (va_A (w_X6_hasPlaceFor cA h_t a_t o_t) sz) := by
  refine z_start (cc := cX6_addNumber) (maxL := 3) (ret := none) (lv0 := [(0, .ref h_t), (1, .int v1)]) (Qc := fun sz => va_Qv (fun (_ : Unit) => True) (PostW D cA sz (w_X6_hasPlaceFor cA h_t a_t o_t) (w_X6_hasPlaceFor cA h_t a_t o_t')) (va_A (w_X6_hasPlaceFor cA h_t a_t o_t) sz)) (free := fun sz => va_A (w_X6_hasPlaceFor cA h_t a_t o_t) sz) (by decide +kernel) rfl rfl (Nat.le_of_ble_eq_true rfl) ?_
  intro p e R s m args below meth c A Q hR hA hQ X hr hin
  unfold f_X6_addNumber at hF
  refine z_bipush (v := (24 : Int32)) X dX6_addNumber_0 (by decide) ?_
  refine z_istore_n (lv' := [(2, .int (24 : Int32)), (0, .ref h_t), (1, .int v1)]) X dX6_addNumber_2 rfl (by decide) rfl ?_
  obtain ⟨o11, hL, hF⟩ := zb1_e hF
  have L12_x : ∀ (o11' : Ob), o11' = o11 → ZW p l e R s m args below meth c D A 3 0 0 Q (w_X6_hasPlaceFor cA h_t a_t o11') [] 46 [] := by
    intro o11' hz
    cases hz
    cases hF
    exact z_vret X hA hQ hr dX6_addNumber_46 (Nat.le_refl _) (Nat.le_refl _)
  obtain ⟨B20, hBB20, hL⟩ := zl2_b hL
  have L12 : ∀ (n : Nat) (o9 : Ob) (k10 : Int32), zl2 B20 n o9 k10 = some o11 → ZW p l e R s m args below meth c D A 3 0 0 Q (w_X6_hasPlaceFor cA h_t a_t o9) [(0, .ref h_t), (1, .int v1), (2, .int k10)] 3 [] := by
    intro n
    induction n with
    | zero => intro o9 k10 hL; cases hL
    | succ n ih =>
      intro o9 k10 hL
      obtain ⟨zz13, hF, hL⟩ := zl2_e hL
      rw [hBB20] at hF
      refine z_iload_n X dX6_addNumber_3 rfl 2 rfl ?_
      have hF := if_e hF
      refine z_if_lt (tgt := 46) X dX6_addNumber_4 (by decide) (fun c19 => ?_) (fun c19 => ?_)
      · have hF := hF.1 c19
        cases hF
        have hL := Option.some.inj hL
        refine z_lv (lv' := []) [] rfl ?_
        exact L12_x o9 hL
      · have hF := hF.2 c19
        refine z_aload_n X dX6_addNumber_7 rfl 0 rfl ?_
        refine z_get (v := .int (o9 1 0)) X k_X6_addNumber_24 0 rfl rfl dX6_addNumber_8 ?_
        refine z_sipush (v := (440 : Int32)) X dX6_addNumber_11 (by decide) ?_
        have hF := if_e hF
        refine z_icmp_ge (tgt := 46) X dX6_addNumber_14 (by decide) (fun c18 => ?_) (fun c18 => ?_)
        · have hF := hF.1 c18
          cases hF
          have hL := Option.some.inj hL
          refine z_lv (lv' := []) [] rfl ?_
          exact L12_x o9 hL
        · have hF := hF.2 c18
          refine z_aload_n X dX6_addNumber_17 rfl 0 rfl ?_
          refine z_get (v := .ref (a_t 0)) X k_X6_addNumber_11 0 rfl rfl dX6_addNumber_18 ?_
          refine z_aload_n X dX6_addNumber_21 rfl 0 rfl ?_
          refine z_dup X dX6_addNumber_22 rfl ?_
          refine z_get (v := .int (o9 1 0)) X k_X6_addNumber_24 0 rfl rfl dX6_addNumber_23 ?_
          refine z_dup_x1 X dX6_addNumber_26 rfl rfl ?_
          refine z_iconst (v := (1 : Int32)) X dX6_addNumber_27 (by decide) ?_
          refine z_iadd X dX6_addNumber_28 ?_
          obtain ⟨o14, eo14, hF⟩ := nx_e hF
          refine z_put (ws' := (w_X6_hasPlaceFor cA h_t a_t o14)) X k_X6_addNumber_24 tyX6 tyX6_ok nmX6 rfl rfl 0 rfl (Nat.le_of_ble_eq_true rfl) (by rw [eo14]; rfl) dX6_addNumber_29 ?_
          refine z_iload_n X dX6_addNumber_32 rfl 1 rfl ?_
          refine z_iload_n X dX6_addNumber_33 rfl 2 rfl ?_
          refine z_ishr X dX6_addNumber_34 ?_
          refine z_sipush (v := (255 : Int32)) X dX6_addNumber_35 (by decide) ?_
          refine z_iand X dX6_addNumber_38 ?_
          obtain ⟨g15, hF⟩ := gi_e hF
          obtain ⟨o16, eo16, hF⟩ := nx_e hF
          refine z_iast (ws' := (w_X6_hasPlaceFor cA h_t a_t o16)) X 1 rfl g15 (by rw [eo16]; rfl) dX6_addNumber_39 ?_
          obtain ⟨x17, ex17, hF⟩ := nx_e hF
          refine z_iinc (v := x17) (lv' := [(2, .int x17), (0, .ref h_t), (1, .int v1)]) (j := 2) X dX6_addNumber_40 rfl (by rw [ex17]; rfl) (by decide) rfl ?_
          refine z_goto (tgt := 3) X dX6_addNumber_43 (by decide) ?_
          cases hF
          refine z_lv (lv' := [(0, .ref h_t), (1, .int v1), (2, .int x17)]) [1, 2, 0] rfl ?_
          exact ih o16 x17 hL
  refine z_lv (lv' := [(0, .ref h_t), (1, .int v1), (2, .int (24 : Int32))]) [1, 2, 0] rfl ?_
  exact L12 FU o_t (24 : Int32) hL
set_option maxRecDepth 20000 in
theorem h_X6_fail_X6 : ∀ w ∈ wsX60, w ∈ wsX6_fail := by decide +kernel
set_option maxRecDepth 20000 in
theorem k_X6_fail_113 : ZF wsX6_fail RX6 113 6 2 RX6 TX6 17 := ⟨rfl, by decide, h_X6_fail_X6, by decide +kernel⟩
set_option maxRecDepth 20000 in
theorem k_X6_fail_142 : ZF wsX6_fail RX6 142 6 14 RX6 TX6 17 := ⟨rfl, by decide, h_X6_fail_X6, by decide +kernel⟩
set_option maxRecDepth 20000 in
theorem k_X6_fail_145 : ZF wsX6_fail RX6 145 6 3 RX6 TX6 17 := ⟨rfl, by decide, h_X6_fail_X6, by decide +kernel⟩
set_option maxHeartbeats 8000000 in
set_option maxRecDepth 100000 in
theorem c_X6_fail (l : Launch) (D : va_G) (cA : Nat → ClassId) (g : Nat → Nat) (sz : Nat) (h_t : Nat) (a_t : Nat → Nat) (o_t : Ob) (v1 : Int32) (o_t' : Ob) (rv : Int32) (hF : f_X6_fail o_t v1 = some (o_t', rv)) : Met l yX6_fail wsX6_fail ({ frames := 0, cells := 0, slots := 0, locals := 0 }) (va_Pc [.ref h_t, .int v1] (PreW D cA g sz (w_X6_hasPlaceFor cA h_t a_t o_t))) (va_Qi (fun (r : Int32) (_ : Unit) => r = rv) (PostW D cA sz (w_X6_hasPlaceFor cA h_t a_t o_t) (w_X6_hasPlaceFor cA h_t a_t o_t')) (va_A (w_X6_hasPlaceFor cA h_t a_t o_t) sz)) 0 0 (va_A (w_X6_hasPlaceFor cA h_t a_t o_t) sz) := by
  refine z_start (cc := cX6_fail) (maxL := 2) (ret := (some .boolean)) (lv0 := [(0, .ref h_t), (1, .int v1)]) (Qc := fun sz => va_Qi (fun (r : Int32) (_ : Unit) => r = rv) (PostW D cA sz (w_X6_hasPlaceFor cA h_t a_t o_t) (w_X6_hasPlaceFor cA h_t a_t o_t')) (va_A (w_X6_hasPlaceFor cA h_t a_t o_t) sz)) (free := fun sz => va_A (w_X6_hasPlaceFor cA h_t a_t o_t) sz) (by decide +kernel) rfl rfl (Nat.le_of_ble_eq_true rfl) ?_
  intro p e R s m args below meth c A Q hR hA hQ X hr hin
  unfold f_X6_fail at hF
  refine z_aload_n X dX6_fail_0 rfl 0 rfl ?_
  refine z_iload_n X dX6_fail_1 rfl 1 rfl ?_
  obtain ⟨o1, eo1, hF⟩ := nx_e hF
  refine z_put (ws' := (w_X6_hasPlaceFor cA h_t a_t o1)) X k_X6_fail_113 tyX6 tyX6_ok nmX6 rfl rfl 0 rfl (Nat.le_of_ble_eq_true rfl) (by rw [eo1]; rfl) dX6_fail_2 ?_
  refine z_aload_n X dX6_fail_5 rfl 0 rfl ?_
  refine z_aload_n X dX6_fail_6 rfl 0 rfl ?_
  refine z_get (v := .int (o1 14 0)) X k_X6_fail_142 0 rfl rfl dX6_fail_7 ?_
  obtain ⟨o2, eo2, hF⟩ := nx_e hF
  refine z_put (ws' := (w_X6_hasPlaceFor cA h_t a_t o2)) X k_X6_fail_145 tyX6 tyX6_ok nmX6 rfl rfl 0 rfl (Nat.le_of_ble_eq_true rfl) (by rw [eo2]; rfl) dX6_fail_10 ?_
  refine z_iconst (v := (0 : Int32)) X dX6_fail_13 (by decide) ?_
  cases hF
  exact z_zret X hA hQ hr (Or.inl rfl)  rfl dX6_fail_14 (Nat.le_refl _) (Nat.le_refl _)
