abbrev w_X0_close (cA : Nat → ClassId) (h_t : Nat) (a_t : Nat → Nat) (o_t : Ob) : va_W := [(h_t, .inr (0, [.int (o_t 0 0), .int (o_t 1 0), .int (o_t 2 0), .int (o_t 3 0), .int (o_t 4 0), .int (o_t 5 0), .int (o_t 6 0), .ref (a_t 7), .ref (a_t 8), .ref (a_t 9)])), (a_t 7, .inl (cA 0, 30, .inl (o_t 7))), (a_t 8, .inl (cA 0, 30, .inl (o_t 8))), (a_t 9, .inl (cA 0, 30, .inl (o_t 9)))]
set_option maxRecDepth 20000 in
theorem h_X0_close_X0 : ∀ w ∈ wsX00, w ∈ wsX0_close := by decide +kernel
set_option maxRecDepth 20000 in
theorem k_X0_close_21 : ZF wsX0_close RX0 21 0 0 RX0 TX0 10 := ⟨rfl, by decide, h_X0_close_X0, by decide +kernel⟩
set_option maxRecDepth 20000 in
theorem k_X0_close_25 : ZF wsX0_close RX0 25 0 3 RX0 TX0 10 := ⟨rfl, by decide, h_X0_close_X0, by decide +kernel⟩
set_option maxHeartbeats 8000000 in
set_option maxRecDepth 100000 in
theorem c_X0_close (l : Launch) (D : va_G) (cA : Nat → ClassId) (g : Nat → Nat) (sz : Nat) (h_t : Nat) (a_t : Nat → Nat) (o_t : Ob)  (o_t' : Ob) (hF : f_X0_close o_t = some o_t') : Met l yX0_close wsX0_close ({ frames := 0, cells := 0, slots := 0, locals := 0 }) (va_Pc [.ref h_t] (PreW D cA g sz (w_X0_close cA h_t a_t o_t))) (va_Qv (fun (_ : Unit) => True) (PostW D cA sz (w_X0_close cA h_t a_t o_t) (w_X0_close cA h_t a_t o_t')) (va_A (w_X0_close cA h_t a_t o_t) sz)) 0 0 (va_A (w_X0_close cA h_t a_t o_t) sz) := by
  refine z_start (cc := cX0_close) (maxL := 1) (ret := none) (lv0 := [(0, .ref h_t)]) (Qc := fun sz => va_Qv (fun (_ : Unit) => True) (PostW D cA sz (w_X0_close cA h_t a_t o_t) (w_X0_close cA h_t a_t o_t')) (va_A (w_X0_close cA h_t a_t o_t) sz)) (free := fun sz => va_A (w_X0_close cA h_t a_t o_t) sz) (by decide +kernel) rfl rfl (Nat.le_of_ble_eq_true rfl) ?_
  intro p e R s m args below meth c A Q hR hA hQ X hr hin
  unfold f_X0_close at hF
  refine z_aload_n X dX0_close_0 rfl 0 rfl ?_
  refine z_iconst (v := (0 : Int32)) X dX0_close_1 (by decide) ?_
  obtain ⟨o1, eo1, hF⟩ := nx_e hF
  refine z_putZ (ws' := (w_X0_close cA h_t a_t o1)) X k_X0_close_21 tyX0 tyX0_ok nmX0 rfl rfl 0 rfl (Nat.le_of_ble_eq_true rfl) (by rw [eo1]; rfl) (Or.inl rfl) dX0_close_2 ?_
  refine z_aload_n X dX0_close_5 rfl 0 rfl ?_
  refine z_iconst (v := (0 : Int32)) X dX0_close_6 (by decide) ?_
  obtain ⟨o2, eo2, hF⟩ := nx_e hF
  refine z_put (ws' := (w_X0_close cA h_t a_t o2)) X k_X0_close_25 tyX0 tyX0_ok nmX0 rfl rfl 0 rfl (Nat.le_of_ble_eq_true rfl) (by rw [eo2]; rfl) dX0_close_7 ?_
  cases hF
  exact z_vret X hA hQ hr dX0_close_10 (Nat.le_refl _) (Nat.le_refl _)
set_option maxRecDepth 20000 in
theorem h_X0_begin_X0 : ∀ w ∈ wsX00, w ∈ wsX0_begin := by decide +kernel
set_option maxRecDepth 20000 in
theorem k_X0_begin_21 : ZF wsX0_begin RX0 21 0 0 RX0 TX0 10 := ⟨rfl, by decide, h_X0_begin_X0, by decide +kernel⟩
set_option maxRecDepth 20000 in
theorem k_X0_begin_25 : ZF wsX0_begin RX0 25 0 3 RX0 TX0 10 := ⟨rfl, by decide, h_X0_begin_X0, by decide +kernel⟩
set_option maxRecDepth 20000 in
theorem k_X0_begin_29 : ZF wsX0_begin RX0 29 0 1 RX0 TX0 10 := ⟨rfl, by decide, h_X0_begin_X0, by decide +kernel⟩
set_option maxRecDepth 20000 in
theorem k_X0_begin_32 : ZF wsX0_begin RX0 32 0 2 RX0 TX0 10 := ⟨rfl, by decide, h_X0_begin_X0, by decide +kernel⟩
set_option maxRecDepth 20000 in
theorem k_X0_begin_35 : ZF wsX0_begin RX0 35 0 4 RX0 TX0 10 := ⟨rfl, by decide, h_X0_begin_X0, by decide +kernel⟩
set_option maxRecDepth 20000 in
theorem k_X0_begin_38 : ZF wsX0_begin RX0 38 0 5 RX0 TX0 10 := ⟨rfl, by decide, h_X0_begin_X0, by decide +kernel⟩
set_option maxRecDepth 20000 in
theorem k_X0_begin_41 : ZF wsX0_begin RX0 41 0 6 RX0 TX0 10 := ⟨rfl, by decide, h_X0_begin_X0, by decide +kernel⟩
set_option maxHeartbeats 8000000 in
set_option maxRecDepth 100000 in
theorem c_X0_begin (l : Launch) (D : va_G) (cA : Nat → ClassId) (g : Nat → Nat) (sz : Nat) (h_t : Nat) (a_t : Nat → Nat) (o_t : Ob) (v1 : Int32) (v2 : Int32) (o_t' : Ob) (hF : f_X0_begin o_t v1 v2 = some o_t') : Met l yX0_begin wsX0_begin ({ frames := 0, cells := 0, slots := 0, locals := 0 }) (va_Pc [.ref h_t, .int v1, .int v2] (PreW D cA g sz (w_X0_close cA h_t a_t o_t))) (va_Qv (fun (_ : Unit) => True) (PostW D cA sz (w_X0_close cA h_t a_t o_t) (w_X0_close cA h_t a_t o_t')) (va_A (w_X0_close cA h_t a_t o_t) sz)) 0 0 (va_A (w_X0_close cA h_t a_t o_t) sz) := by
  refine z_start (cc := cX0_begin) (maxL := 3) (ret := none) (lv0 := [(0, .ref h_t), (1, .int v1), (2, .int v2)]) (Qc := fun sz => va_Qv (fun (_ : Unit) => True) (PostW D cA sz (w_X0_close cA h_t a_t o_t) (w_X0_close cA h_t a_t o_t')) (va_A (w_X0_close cA h_t a_t o_t) sz)) (free := fun sz => va_A (w_X0_close cA h_t a_t o_t) sz) (by decide +kernel) rfl rfl (Nat.le_of_ble_eq_true rfl) ?_
  intro p e R s m args below meth c A Q hR hA hQ X hr hin
  unfold f_X0_begin at hF
  refine z_aload_n X dX0_begin_0 rfl 0 rfl ?_
  refine z_iconst (v := (1 : Int32)) X dX0_begin_1 (by decide) ?_
  obtain ⟨o1, eo1, hF⟩ := nx_e hF
  refine z_putZ (ws' := (w_X0_close cA h_t a_t o1)) X k_X0_begin_21 tyX0 tyX0_ok nmX0 rfl rfl 0 rfl (Nat.le_of_ble_eq_true rfl) (by rw [eo1]; rfl) (Or.inr rfl) dX0_begin_2 ?_
  refine z_aload_n X dX0_begin_5 rfl 0 rfl ?_
  refine z_iload_n X dX0_begin_6 rfl 1 rfl ?_
  obtain ⟨o2, eo2, hF⟩ := nx_e hF
  refine z_put (ws' := (w_X0_close cA h_t a_t o2)) X k_X0_begin_29 tyX0 tyX0_ok nmX0 rfl rfl 0 rfl (Nat.le_of_ble_eq_true rfl) (by rw [eo2]; rfl) dX0_begin_7 ?_
  refine z_aload_n X dX0_begin_10 rfl 0 rfl ?_
  refine z_iload_n X dX0_begin_11 rfl 2 rfl ?_
  obtain ⟨o3, eo3, hF⟩ := nx_e hF
  refine z_put (ws' := (w_X0_close cA h_t a_t o3)) X k_X0_begin_32 tyX0 tyX0_ok nmX0 rfl rfl 0 rfl (Nat.le_of_ble_eq_true rfl) (by rw [eo3]; rfl) dX0_begin_12 ?_
  refine z_aload_n X dX0_begin_15 rfl 0 rfl ?_
  refine z_iconst (v := (0 : Int32)) X dX0_begin_16 (by decide) ?_
  obtain ⟨o4, eo4, hF⟩ := nx_e hF
  refine z_put (ws' := (w_X0_close cA h_t a_t o4)) X k_X0_begin_25 tyX0 tyX0_ok nmX0 rfl rfl 0 rfl (Nat.le_of_ble_eq_true rfl) (by rw [eo4]; rfl) dX0_begin_17 ?_
  refine z_aload_n X dX0_begin_20 rfl 0 rfl ?_
  refine z_iconst (v := (0 : Int32)) X dX0_begin_21 (by decide) ?_
  obtain ⟨o5, eo5, hF⟩ := nx_e hF
  refine z_put (ws' := (w_X0_close cA h_t a_t o5)) X k_X0_begin_35 tyX0 tyX0_ok nmX0 rfl rfl 0 rfl (Nat.le_of_ble_eq_true rfl) (by rw [eo5]; rfl) dX0_begin_22 ?_
  refine z_aload_n X dX0_begin_25 rfl 0 rfl ?_
  refine z_iconst (v := (0 : Int32)) X dX0_begin_26 (by decide) ?_
  obtain ⟨o6, eo6, hF⟩ := nx_e hF
  refine z_put (ws' := (w_X0_close cA h_t a_t o6)) X k_X0_begin_38 tyX0 tyX0_ok nmX0 rfl rfl 0 rfl (Nat.le_of_ble_eq_true rfl) (by rw [eo6]; rfl) dX0_begin_27 ?_
  refine z_aload_n X dX0_begin_30 rfl 0 rfl ?_
  refine z_iconst (v := (0 : Int32)) X dX0_begin_31 (by decide) ?_
  obtain ⟨o7, eo7, hF⟩ := nx_e hF
  refine z_put (ws' := (w_X0_close cA h_t a_t o7)) X k_X0_begin_41 tyX0 tyX0_ok nmX0 rfl rfl 0 rfl (Nat.le_of_ble_eq_true rfl) (by rw [eo7]; rfl) dX0_begin_32 ?_
  cases hF
  exact z_vret X hA hQ hr dX0_begin_35 (Nat.le_refl _) (Nat.le_refl _)
set_option maxRecDepth 20000 in
theorem h_X0_takes_X0 : ∀ w ∈ wsX00, w ∈ wsX0_takes := by decide +kernel
set_option maxRecDepth 20000 in
theorem k_X0_takes_29 : ZF wsX0_takes RX0 29 0 1 RX0 TX0 10 := ⟨rfl, by decide, h_X0_takes_X0, by decide +kernel⟩
set_option maxHeartbeats 8000000 in
set_option maxRecDepth 100000 in
theorem c_X0_takes (l : Launch) (D : va_G) (cA : Nat → ClassId) (g : Nat → Nat) (sz : Nat) (h_t : Nat) (a_t : Nat → Nat) (o_t : Ob) (v1 : Int32) (rv : Int32) (hF : f_X0_takes o_t v1 = some rv) : Met l yX0_takes wsX0_takes ({ frames := 0, cells := 0, slots := 0, locals := 0 }) (va_Pc [.ref h_t, .int v1] (PreW D cA g sz (w_X0_close cA h_t a_t o_t))) (va_Qi (fun (r : Int32) (_ : Unit) => r = rv) (PostW D cA sz (w_X0_close cA h_t a_t o_t) (w_X0_close cA h_t a_t o_t)) (va_A (w_X0_close cA h_t a_t o_t) sz)) 0 0 (va_A (w_X0_close cA h_t a_t o_t) sz) := by
  refine z_start (cc := cX0_takes) (maxL := 2) (ret := (some .boolean)) (lv0 := [(0, .ref h_t), (1, .int v1)]) (Qc := fun sz => va_Qi (fun (r : Int32) (_ : Unit) => r = rv) (PostW D cA sz (w_X0_close cA h_t a_t o_t) (w_X0_close cA h_t a_t o_t)) (va_A (w_X0_close cA h_t a_t o_t) sz)) (free := fun sz => va_A (w_X0_close cA h_t a_t o_t) sz) (by decide +kernel) rfl rfl (Nat.le_of_ble_eq_true rfl) ?_
  intro p e R s m args below meth c A Q hR hA hQ X hr hin
  unfold f_X0_takes at hF
  refine z_aload_n X dX0_takes_0 rfl 0 rfl ?_
  refine z_get (v := .int (o_t 1 0)) X k_X0_takes_29 0 rfl rfl dX0_takes_1 ?_
  have hF := if_e hF
  by_cases c1 : o_t 1 0 = (0 : Int32)
  · have hF := hF.1 c1
    refine z_tableIn (tgt := 32) X dX0_takes_4 (by rw [c1]; decide) (by rw [c1]; decide) (by rw [c1]; rfl) (by decide) ?_
    refine z_iconst (v := (1 : Int32)) X dX0_takes_32 (by decide) ?_
    cases hF
    exact z_zret X hA hQ hr (Or.inr rfl)  rfl dX0_takes_33 (Nat.le_refl _) (Nat.le_refl _)
  have hF := hF.2 c1
  have tc1 : Int32.toInt (o_t 1 0) ≠ 0 := ne_t c1
  have hF := if_e hF
  by_cases c4 : o_t 1 0 = (1 : Int32)
  · have hF := hF.1 c4
    refine z_tableIn (tgt := 34) X dX0_takes_4 (by rw [c4]; decide) (by rw [c4]; decide) (by rw [c4]; rfl) (by decide) ?_
    refine z_iload_n X dX0_takes_34 rfl 1 rfl ?_
    have hF := if_e hF
    refine z_if_eq (tgt := 43) X dX0_takes_35 (by decide) (fun c3 => ?_) (fun c3 => ?_)
    · have hF := hF.1 c3
      refine z_iconst (v := (1 : Int32)) X dX0_takes_43 (by decide) ?_
      refine z_goto (tgt := 48) X dX0_takes_44 (by decide) ?_
      cases hF
      exact z_zret X hA hQ hr (Or.inr rfl)  rfl dX0_takes_48 (Nat.le_refl _) (Nat.le_refl _)
    · have hF := hF.2 c3
      refine z_iload_n X dX0_takes_38 rfl 1 rfl ?_
      refine z_iconst (v := (1 : Int32)) X dX0_takes_39 (by decide) ?_
      have hF := if_e hF
      refine z_icmp_ne (tgt := 47) X dX0_takes_40 (by decide) (fun c2 => ?_) (fun c2 => ?_)
      · have hF := hF.2 c2
        refine z_iconst (v := (0 : Int32)) X dX0_takes_47 (by decide) ?_
        cases hF
        exact z_zret X hA hQ hr (Or.inl rfl)  rfl dX0_takes_48 (Nat.le_refl _) (Nat.le_refl _)
      · have hF := hF.1 c2
        refine z_iconst (v := (1 : Int32)) X dX0_takes_43 (by decide) ?_
        refine z_goto (tgt := 48) X dX0_takes_44 (by decide) ?_
        cases hF
        exact z_zret X hA hQ hr (Or.inr rfl)  rfl dX0_takes_48 (Nat.le_refl _) (Nat.le_refl _)
  have hF := hF.2 c4
  have tc4 : Int32.toInt (o_t 1 0) ≠ 1 := ne_t c4
  have hF := if_e hF
  by_cases c7 : o_t 1 0 = (2 : Int32)
  · have hF := hF.1 c7
    refine z_tableIn (tgt := 49) X dX0_takes_4 (by rw [c7]; decide) (by rw [c7]; decide) (by rw [c7]; rfl) (by decide) ?_
    refine z_iload_n X dX0_takes_49 rfl 1 rfl ?_
    refine z_iconst (v := (2 : Int32)) X dX0_takes_50 (by decide) ?_
    have hF := if_e hF
    refine z_icmp_eq (tgt := 59) X dX0_takes_51 (by decide) (fun c6 => ?_) (fun c6 => ?_)
    · have hF := hF.1 c6
      refine z_iconst (v := (1 : Int32)) X dX0_takes_59 (by decide) ?_
      refine z_goto (tgt := 64) X dX0_takes_60 (by decide) ?_
      cases hF
      exact z_zret X hA hQ hr (Or.inr rfl)  rfl dX0_takes_64 (Nat.le_refl _) (Nat.le_refl _)
    · have hF := hF.2 c6
      refine z_iload_n X dX0_takes_54 rfl 1 rfl ?_
      refine z_iconst (v := (3 : Int32)) X dX0_takes_55 (by decide) ?_
      have hF := if_e hF
      refine z_icmp_ne (tgt := 63) X dX0_takes_56 (by decide) (fun c5 => ?_) (fun c5 => ?_)
      · have hF := hF.2 c5
        refine z_iconst (v := (0 : Int32)) X dX0_takes_63 (by decide) ?_
        cases hF
        exact z_zret X hA hQ hr (Or.inl rfl)  rfl dX0_takes_64 (Nat.le_refl _) (Nat.le_refl _)
      · have hF := hF.1 c5
        refine z_iconst (v := (1 : Int32)) X dX0_takes_59 (by decide) ?_
        refine z_goto (tgt := 64) X dX0_takes_60 (by decide) ?_
        cases hF
        exact z_zret X hA hQ hr (Or.inr rfl)  rfl dX0_takes_64 (Nat.le_refl _) (Nat.le_refl _)
  have hF := hF.2 c7
  have tc7 : Int32.toInt (o_t 1 0) ≠ 2 := ne_t c7
  refine z_tableOut (tgt := 65) X dX0_takes_4 (by omega) (by decide) ?_
  refine z_iload_n X dX0_takes_65 rfl 1 rfl ?_
  refine z_iconst (v := (3 : Int32)) X dX0_takes_66 (by decide) ?_
  have hF := if_e hF
  refine z_icmp_ne (tgt := 74) X dX0_takes_67 (by decide) (fun c8 => ?_) (fun c8 => ?_)
  · have hF := hF.2 c8
    refine z_iconst (v := (0 : Int32)) X dX0_takes_74 (by decide) ?_
    cases hF
    exact z_zret X hA hQ hr (Or.inl rfl)  rfl dX0_takes_75 (Nat.le_refl _) (Nat.le_refl _)
  · have hF := hF.1 c8
    refine z_iconst (v := (1 : Int32)) X dX0_takes_70 (by decide) ?_
    refine z_goto (tgt := 75) X dX0_takes_71 (by decide) ?_
    cases hF
    exact z_zret X hA hQ hr (Or.inr rfl)  rfl dX0_takes_75 (Nat.le_refl _) (Nat.le_refl _)
set_option maxRecDepth 20000 in
theorem h_X0_write_X0 : ∀ w ∈ wsX00, w ∈ wsX0_write := by decide +kernel
set_option maxRecDepth 20000 in
theorem k_X0_write_9 : ZF wsX0_write RX0 9 0 7 RX0 TX0 10 := ⟨rfl, by decide, h_X0_write_X0, by decide +kernel⟩
set_option maxRecDepth 20000 in
theorem k_X0_write_15 : ZF wsX0_write RX0 15 0 8 RX0 TX0 10 := ⟨rfl, by decide, h_X0_write_X0, by decide +kernel⟩
set_option maxRecDepth 20000 in
theorem k_X0_write_18 : ZF wsX0_write RX0 18 0 9 RX0 TX0 10 := ⟨rfl, by decide, h_X0_write_X0, by decide +kernel⟩
set_option maxRecDepth 20000 in
theorem k_X0_write_21 : ZF wsX0_write RX0 21 0 0 RX0 TX0 10 := ⟨rfl, by decide, h_X0_write_X0, by decide +kernel⟩
set_option maxRecDepth 20000 in
theorem k_X0_write_25 : ZF wsX0_write RX0 25 0 3 RX0 TX0 10 := ⟨rfl, by decide, h_X0_write_X0, by decide +kernel⟩
set_option maxRecDepth 20000 in
theorem k_X0_write_32 : ZF wsX0_write RX0 32 0 2 RX0 TX0 10 := ⟨rfl, by decide, h_X0_write_X0, by decide +kernel⟩
set_option maxRecDepth 20000 in
theorem k_X0_write_35 : ZF wsX0_write RX0 35 0 4 RX0 TX0 10 := ⟨rfl, by decide, h_X0_write_X0, by decide +kernel⟩
set_option maxRecDepth 20000 in
theorem k_X0_write_38 : ZF wsX0_write RX0 38 0 5 RX0 TX0 10 := ⟨rfl, by decide, h_X0_write_X0, by decide +kernel⟩
set_option maxRecDepth 20000 in
theorem k_X0_write_41 : ZF wsX0_write RX0 41 0 6 RX0 TX0 10 := ⟨rfl, by decide, h_X0_write_X0, by decide +kernel⟩
set_option maxHeartbeats 8000000 in
set_option maxRecDepth 100000 in
theorem c_X0_write (l : Launch) (D : va_G) (cA : Nat → ClassId) (g : Nat → Nat) (sz : Nat) (h_t : Nat) (a_t : Nat → Nat) (o_t : Ob) (v1 : Int32) (v2 : Int32) (v3 : Int32) (o_t' : Ob) (hF : f_X0_write o_t v1 v2 v3 = some o_t') : Met l yX0_write wsX0_write ({ frames := 1, cells := 0, slots := 0, locals := 21 }) (va_Pc [.ref h_t, .int v1, .int v2, .int v3] (PreW D cA g sz (w_X0_close cA h_t a_t o_t))) (va_Qv (fun (_ : Unit) => True) (PostW D cA sz (w_X0_close cA h_t a_t o_t) (w_X0_close cA h_t a_t o_t')) (va_A (w_X0_close cA h_t a_t o_t) sz)) 0 0 (va_A (w_X0_close cA h_t a_t o_t) sz) := by
  refine z_start (cc := cX0_write) (maxL := 4) (ret := none) (lv0 := [(0, .ref h_t), (1, .int v1), (2, .int v2), (3, .int v3)]) (Qc := fun sz => va_Qv (fun (_ : Unit) => True) (PostW D cA sz (w_X0_close cA h_t a_t o_t) (w_X0_close cA h_t a_t o_t')) (va_A (w_X0_close cA h_t a_t o_t) sz)) (free := fun sz => va_A (w_X0_close cA h_t a_t o_t) sz) (by decide +kernel) rfl rfl (Nat.le_of_ble_eq_true rfl) ?_
  intro p e R s m args below meth c A Q hR hA hQ X hr hin
  unfold f_X0_write at hF
  refine z_aload_n X dX0_write_0 rfl 0 rfl ?_
  refine z_get (v := .int (o_t 0 0)) X k_X0_write_21 0 rfl rfl dX0_write_1 ?_
  have hF := if_e hF
  refine z_if_ne (tgt := 8) X dX0_write_4 (by decide) (fun c15 => ?_) (fun c15 => ?_)
  · have hF := hF.2 c15
    refine z_aload_n X dX0_write_8 rfl 0 rfl ?_
    refine z_get (v := .int (o_t 3 0)) X k_X0_write_25 0 rfl rfl dX0_write_9 ?_
    refine z_aload_n X dX0_write_12 rfl 0 rfl ?_
    refine z_get (v := .int (o_t 2 0)) X k_X0_write_32 0 rfl rfl dX0_write_13 ?_
    have hF := if_e hF
    refine z_icmp_lt (tgt := 32) X dX0_write_16 (by decide) (fun c14 => ?_) (fun c14 => ?_)
    · have hF := hF.1 c14
      refine z_aload_n X dX0_write_32 rfl 0 rfl ?_
      refine z_iload_n X dX0_write_33 rfl 1 rfl ?_
      obtain ⟨r1, hc2, hF⟩ := zb1_e hF
      refine z_Vi (As := [.int v1]) (rest := []) (wc := (w_X0_close cA h_t a_t o_t)) (wc' := (w_X0_close cA h_t a_t o_t)) (ws' := (w_X0_close cA h_t a_t o_t)) (rv := r1) X (cwV 1 X.2.2.2.2.1 gX0_write_X0_takes rfl rfl rfl (by decide +kernel) (by rw [hR]; exact ⟨Nat.le_of_ble_eq_true rfl, Nat.le_of_ble_eq_true rfl⟩)) (fun sz => c_X0_takes l D cA g sz h_t a_t o_t v1 r1 hc2) [0, 1, 2, 3] [1000, 1001, 1002, 1003] rfl (by decide) rfl (by decide) rfl rfl rfl rfl rfl rfl (Nat.le_of_ble_eq_true rfl) dX0_write_34 ⟨Nat.zero_le _, Nat.zero_le _⟩ ?_
      have hF := if_e hF
      refine z_if_ne (tgt := 53) X dX0_write_37 (by decide) (fun c12 => ?_) (fun c12 => ?_)
      · have hF := hF.2 c12
        refine z_aload_n X dX0_write_53 rfl 0 rfl ?_
        refine z_get (v := .ref (a_t 7)) X k_X0_write_9 0 rfl rfl dX0_write_54 ?_
        refine z_aload_n X dX0_write_57 rfl 0 rfl ?_
        refine z_get (v := .int (o_t 3 0)) X k_X0_write_25 0 rfl rfl dX0_write_58 ?_
        refine z_iload_n X dX0_write_61 rfl 1 rfl ?_
        obtain ⟨g3, hF⟩ := gi_e hF
        obtain ⟨o4, eo4, hF⟩ := nx_e hF
        refine z_iast (ws' := (w_X0_close cA h_t a_t o4)) X 1 rfl g3 (by rw [eo4]; rfl) dX0_write_62 ?_
        refine z_aload_n X dX0_write_63 rfl 0 rfl ?_
        refine z_get (v := .ref (a_t 8)) X k_X0_write_15 0 rfl rfl dX0_write_64 ?_
        refine z_aload_n X dX0_write_67 rfl 0 rfl ?_
        refine z_get (v := .int (o4 3 0)) X k_X0_write_25 0 rfl rfl dX0_write_68 ?_
        refine z_iload_n X dX0_write_71 rfl 2 rfl ?_
        obtain ⟨g5, hF⟩ := gi_e hF
        obtain ⟨o6, eo6, hF⟩ := nx_e hF
        refine z_iast (ws' := (w_X0_close cA h_t a_t o6)) X 2 rfl g5 (by rw [eo6]; rfl) dX0_write_72 ?_
        refine z_aload_n X dX0_write_73 rfl 0 rfl ?_
        refine z_get (v := .ref (a_t 9)) X k_X0_write_18 0 rfl rfl dX0_write_74 ?_
        refine z_aload_n X dX0_write_77 rfl 0 rfl ?_
        refine z_get (v := .int (o6 3 0)) X k_X0_write_25 0 rfl rfl dX0_write_78 ?_
        refine z_iload_n X dX0_write_81 rfl 3 rfl ?_
        obtain ⟨g7, hF⟩ := gi_e hF
        obtain ⟨o8, eo8, hF⟩ := nx_e hF
        refine z_iast (ws' := (w_X0_close cA h_t a_t o8)) X 3 rfl g7 (by rw [eo8]; rfl) dX0_write_82 ?_
        refine z_aload_n X dX0_write_83 rfl 0 rfl ?_
        refine z_dup X dX0_write_84 rfl ?_
        refine z_get (v := .int (o8 3 0)) X k_X0_write_25 0 rfl rfl dX0_write_85 ?_
        refine z_iconst (v := (1 : Int32)) X dX0_write_88 (by decide) ?_
        refine z_iadd X dX0_write_89 ?_
        obtain ⟨o9, eo9, hF⟩ := nx_e hF
        refine z_put (ws' := (w_X0_close cA h_t a_t o9)) X k_X0_write_25 tyX0 tyX0_ok nmX0 rfl rfl 0 rfl (Nat.le_of_ble_eq_true rfl) (by rw [eo9]; rfl) dX0_write_90 ?_
        refine z_aload_n X dX0_write_93 rfl 0 rfl ?_
        refine z_dup X dX0_write_94 rfl ?_
        refine z_get (v := .int (o9 6 0)) X k_X0_write_41 0 rfl rfl dX0_write_95 ?_
        refine z_iload_n X dX0_write_98 rfl 3 rfl ?_
        refine z_iadd X dX0_write_99 ?_
        obtain ⟨o10, eo10, hF⟩ := nx_e hF
        refine z_put (ws' := (w_X0_close cA h_t a_t o10)) X k_X0_write_41 tyX0 tyX0_ok nmX0 rfl rfl 0 rfl (Nat.le_of_ble_eq_true rfl) (by rw [eo10]; rfl) dX0_write_100 ?_
        cases hF
        exact z_vret X hA hQ hr dX0_write_103 (Nat.le_refl _) (Nat.le_refl _)
      · have hF := hF.1 c12
        refine z_aload_n X dX0_write_40 rfl 0 rfl ?_
        refine z_dup X dX0_write_41 rfl ?_
        refine z_get (v := .int (o_t 4 0)) X k_X0_write_35 0 rfl rfl dX0_write_42 ?_
        refine z_iconst (v := (1 : Int32)) X dX0_write_45 (by decide) ?_
        refine z_iadd X dX0_write_46 ?_
        obtain ⟨o11, eo11, hF⟩ := nx_e hF
        refine z_put (ws' := (w_X0_close cA h_t a_t o11)) X k_X0_write_35 tyX0 tyX0_ok nmX0 rfl rfl 0 rfl (Nat.le_of_ble_eq_true rfl) (by rw [eo11]; rfl) dX0_write_47 ?_
        refine z_goto (tgt := 103) X dX0_write_50 (by decide) ?_
        cases hF
        exact z_vret X hA hQ hr dX0_write_103 (Nat.le_refl _) (Nat.le_refl _)
    · have hF := hF.2 c14
      refine z_aload_n X dX0_write_19 rfl 0 rfl ?_
      refine z_dup X dX0_write_20 rfl ?_
      refine z_get (v := .int (o_t 5 0)) X k_X0_write_38 0 rfl rfl dX0_write_21 ?_
      refine z_iconst (v := (1 : Int32)) X dX0_write_24 (by decide) ?_
      refine z_iadd X dX0_write_25 ?_
      obtain ⟨o13, eo13, hF⟩ := nx_e hF
      refine z_put (ws' := (w_X0_close cA h_t a_t o13)) X k_X0_write_38 tyX0 tyX0_ok nmX0 rfl rfl 0 rfl (Nat.le_of_ble_eq_true rfl) (by rw [eo13]; rfl) dX0_write_26 ?_
      refine z_goto (tgt := 103) X dX0_write_29 (by decide) ?_
      cases hF
      exact z_vret X hA hQ hr dX0_write_103 (Nat.le_refl _) (Nat.le_refl _)
  · have hF := hF.1 c15
    cases hF
    exact z_vret X hA hQ hr dX0_write_7 (Nat.le_refl _) (Nat.le_refl _)
abbrev w_X0_copyFrom (cA : Nat → ClassId) (h_t : Nat) (a_t : Nat → Nat) (o_t : Ob) (h_p1 : Nat) (a_p1 : Nat → Nat) (o_p1 : Ob) : va_W := [(h_t, .inr (0, [.int (o_t 0 0), .int (o_t 1 0), .int (o_t 2 0), .int (o_t 3 0), .int (o_t 4 0), .int (o_t 5 0), .int (o_t 6 0), .ref (a_t 7), .ref (a_t 8), .ref (a_t 9)])), (a_t 7, .inl (cA 0, 30, .inl (o_t 7))), (a_t 8, .inl (cA 0, 30, .inl (o_t 8))), (a_t 9, .inl (cA 0, 30, .inl (o_t 9))), (h_p1, .inr (0, [.int (o_p1 0 0), .int (o_p1 1 0), .int (o_p1 2 0), .int (o_p1 3 0), .int (o_p1 4 0), .int (o_p1 5 0), .int (o_p1 6 0), .ref (a_p1 7), .ref (a_p1 8), .ref (a_p1 9)])), (a_p1 7, .inl (cA 0, 30, .inl (o_p1 7))), (a_p1 8, .inl (cA 0, 30, .inl (o_p1 8))), (a_p1 9, .inl (cA 0, 30, .inl (o_p1 9)))]
set_option maxRecDepth 20000 in
theorem h_X0_copyFrom_X0 : ∀ w ∈ wsX00, w ∈ wsX0_copyFrom := by decide +kernel
set_option maxRecDepth 20000 in
theorem k_X0_copyFrom_9 : ZF wsX0_copyFrom RX0 9 0 7 RX0 TX0 10 := ⟨rfl, by decide, h_X0_copyFrom_X0, by decide +kernel⟩
set_option maxRecDepth 20000 in
theorem k_X0_copyFrom_15 : ZF wsX0_copyFrom RX0 15 0 8 RX0 TX0 10 := ⟨rfl, by decide, h_X0_copyFrom_X0, by decide +kernel⟩
set_option maxRecDepth 20000 in
theorem k_X0_copyFrom_18 : ZF wsX0_copyFrom RX0 18 0 9 RX0 TX0 10 := ⟨rfl, by decide, h_X0_copyFrom_X0, by decide +kernel⟩
set_option maxRecDepth 20000 in
theorem k_X0_copyFrom_21 : ZF wsX0_copyFrom RX0 21 0 0 RX0 TX0 10 := ⟨rfl, by decide, h_X0_copyFrom_X0, by decide +kernel⟩
set_option maxRecDepth 20000 in
theorem k_X0_copyFrom_25 : ZF wsX0_copyFrom RX0 25 0 3 RX0 TX0 10 := ⟨rfl, by decide, h_X0_copyFrom_X0, by decide +kernel⟩
set_option maxRecDepth 20000 in
theorem k_X0_copyFrom_29 : ZF wsX0_copyFrom RX0 29 0 1 RX0 TX0 10 := ⟨rfl, by decide, h_X0_copyFrom_X0, by decide +kernel⟩
set_option maxRecDepth 20000 in
theorem k_X0_copyFrom_32 : ZF wsX0_copyFrom RX0 32 0 2 RX0 TX0 10 := ⟨rfl, by decide, h_X0_copyFrom_X0, by decide +kernel⟩
set_option maxRecDepth 20000 in
theorem k_X0_copyFrom_35 : ZF wsX0_copyFrom RX0 35 0 4 RX0 TX0 10 := ⟨rfl, by decide, h_X0_copyFrom_X0, by decide +kernel⟩
set_option maxRecDepth 20000 in
theorem k_X0_copyFrom_38 : ZF wsX0_copyFrom RX0 38 0 5 RX0 TX0 10 := ⟨rfl, by decide, h_X0_copyFrom_X0, by decide +kernel⟩
set_option maxRecDepth 20000 in
theorem k_X0_copyFrom_41 : ZF wsX0_copyFrom RX0 41 0 6 RX0 TX0 10 := ⟨rfl, by decide, h_X0_copyFrom_X0, by decide +kernel⟩
set_option maxRecDepth 20000 in
theorem k_X0_copyFrom_n48 : ZN wsX0_copyFrom RX0 48 arraycopyName "java/lang/System" := ⟨by decide +kernel, by decide +kernel, by decide +kernel, by decide +kernel⟩
set_option maxHeartbeats 8000000 in
set_option maxRecDepth 100000 in
theorem c_X0_copyFrom (l : Launch) (D : va_G) (cA : Nat → ClassId) (g : Nat → Nat) (sz : Nat) (h_t : Nat) (a_t : Nat → Nat) (o_t : Ob) (h_p1 : Nat) (a_p1 : Nat → Nat) (o_p1 : Ob)  (o_t' : Ob) (hF : f_X0_copyFrom o_t o_p1 = some o_t') : Met l yX0_copyFrom wsX0_copyFrom ({ frames := 1, cells := 0, slots := 0, locals := 48 }) (va_Pc [.ref h_t, .ref h_p1] (PreW D cA g sz (w_X0_copyFrom cA h_t a_t o_t h_p1 a_p1 o_p1))) (va_Qv (fun (_ : Unit) => True) (PostW D cA sz (w_X0_copyFrom cA h_t a_t o_t h_p1 a_p1 o_p1) (w_X0_copyFrom cA h_t a_t o_t' h_p1 a_p1 o_p1)) (va_A (w_X0_copyFrom cA h_t a_t o_t h_p1 a_p1 o_p1) sz)) 0 0 (va_A (w_X0_copyFrom cA h_t a_t o_t h_p1 a_p1 o_p1) sz) := by
  refine z_start (cc := cX0_copyFrom) (maxL := 2) (ret := none) (lv0 := [(0, .ref h_t), (1, .ref h_p1)]) (Qc := fun sz => va_Qv (fun (_ : Unit) => True) (PostW D cA sz (w_X0_copyFrom cA h_t a_t o_t h_p1 a_p1 o_p1) (w_X0_copyFrom cA h_t a_t o_t' h_p1 a_p1 o_p1)) (va_A (w_X0_copyFrom cA h_t a_t o_t h_p1 a_p1 o_p1) sz)) (free := fun sz => va_A (w_X0_copyFrom cA h_t a_t o_t h_p1 a_p1 o_p1) sz) (by decide +kernel) rfl rfl (Nat.le_of_ble_eq_true rfl) ?_
  intro p e R s m args below meth c A Q hR hA hQ X hr hin
  unfold f_X0_copyFrom at hF
  refine z_aload_n X dX0_copyFrom_0 rfl 0 rfl ?_
  refine z_aload_n X dX0_copyFrom_1 rfl 1 rfl ?_
  refine z_get (v := .int (o_p1 0 0)) X k_X0_copyFrom_21 4 rfl rfl dX0_copyFrom_2 ?_
  obtain ⟨g1, hF⟩ := gz_e hF
  obtain ⟨o2, eo2, hF⟩ := nx_e hF
  refine z_putZ (ws' := (w_X0_copyFrom cA h_t a_t o2 h_p1 a_p1 o_p1)) X k_X0_copyFrom_21 tyX0 tyX0_ok nmX0 rfl rfl 0 rfl (Nat.le_of_ble_eq_true rfl) (by rw [eo2]; rfl) g1 dX0_copyFrom_5 ?_
  refine z_aload_n X dX0_copyFrom_8 rfl 0 rfl ?_
  refine z_aload_n X dX0_copyFrom_9 rfl 1 rfl ?_
  refine z_get (v := .int (o_p1 1 0)) X k_X0_copyFrom_29 4 rfl rfl dX0_copyFrom_10 ?_
  obtain ⟨o3, eo3, hF⟩ := nx_e hF
  refine z_put (ws' := (w_X0_copyFrom cA h_t a_t o3 h_p1 a_p1 o_p1)) X k_X0_copyFrom_29 tyX0 tyX0_ok nmX0 rfl rfl 0 rfl (Nat.le_of_ble_eq_true rfl) (by rw [eo3]; rfl) dX0_copyFrom_13 ?_
  refine z_aload_n X dX0_copyFrom_16 rfl 0 rfl ?_
  refine z_aload_n X dX0_copyFrom_17 rfl 1 rfl ?_
  refine z_get (v := .int (o_p1 2 0)) X k_X0_copyFrom_32 4 rfl rfl dX0_copyFrom_18 ?_
  obtain ⟨o4, eo4, hF⟩ := nx_e hF
  refine z_put (ws' := (w_X0_copyFrom cA h_t a_t o4 h_p1 a_p1 o_p1)) X k_X0_copyFrom_32 tyX0 tyX0_ok nmX0 rfl rfl 0 rfl (Nat.le_of_ble_eq_true rfl) (by rw [eo4]; rfl) dX0_copyFrom_21 ?_
  refine z_aload_n X dX0_copyFrom_24 rfl 0 rfl ?_
  refine z_aload_n X dX0_copyFrom_25 rfl 1 rfl ?_
  refine z_get (v := .int (o_p1 3 0)) X k_X0_copyFrom_25 4 rfl rfl dX0_copyFrom_26 ?_
  obtain ⟨o5, eo5, hF⟩ := nx_e hF
  refine z_put (ws' := (w_X0_copyFrom cA h_t a_t o5 h_p1 a_p1 o_p1)) X k_X0_copyFrom_25 tyX0 tyX0_ok nmX0 rfl rfl 0 rfl (Nat.le_of_ble_eq_true rfl) (by rw [eo5]; rfl) dX0_copyFrom_29 ?_
  refine z_aload_n X dX0_copyFrom_32 rfl 0 rfl ?_
  refine z_aload_n X dX0_copyFrom_33 rfl 1 rfl ?_
  refine z_get (v := .int (o_p1 4 0)) X k_X0_copyFrom_35 4 rfl rfl dX0_copyFrom_34 ?_
  obtain ⟨o6, eo6, hF⟩ := nx_e hF
  refine z_put (ws' := (w_X0_copyFrom cA h_t a_t o6 h_p1 a_p1 o_p1)) X k_X0_copyFrom_35 tyX0 tyX0_ok nmX0 rfl rfl 0 rfl (Nat.le_of_ble_eq_true rfl) (by rw [eo6]; rfl) dX0_copyFrom_37 ?_
  refine z_aload_n X dX0_copyFrom_40 rfl 0 rfl ?_
  refine z_aload_n X dX0_copyFrom_41 rfl 1 rfl ?_
  refine z_get (v := .int (o_p1 5 0)) X k_X0_copyFrom_38 4 rfl rfl dX0_copyFrom_42 ?_
  obtain ⟨o7, eo7, hF⟩ := nx_e hF
  refine z_put (ws' := (w_X0_copyFrom cA h_t a_t o7 h_p1 a_p1 o_p1)) X k_X0_copyFrom_38 tyX0 tyX0_ok nmX0 rfl rfl 0 rfl (Nat.le_of_ble_eq_true rfl) (by rw [eo7]; rfl) dX0_copyFrom_45 ?_
  refine z_aload_n X dX0_copyFrom_48 rfl 0 rfl ?_
  refine z_aload_n X dX0_copyFrom_49 rfl 1 rfl ?_
  refine z_get (v := .int (o_p1 6 0)) X k_X0_copyFrom_41 4 rfl rfl dX0_copyFrom_50 ?_
  obtain ⟨o8, eo8, hF⟩ := nx_e hF
  refine z_put (ws' := (w_X0_copyFrom cA h_t a_t o8 h_p1 a_p1 o_p1)) X k_X0_copyFrom_41 tyX0 tyX0_ok nmX0 rfl rfl 0 rfl (Nat.le_of_ble_eq_true rfl) (by rw [eo8]; rfl) dX0_copyFrom_53 ?_
  refine z_aload_n X dX0_copyFrom_56 rfl 1 rfl ?_
  refine z_get (v := .ref (a_p1 7)) X k_X0_copyFrom_9 4 rfl rfl dX0_copyFrom_57 ?_
  refine z_iconst (v := (0 : Int32)) X dX0_copyFrom_60 (by decide) ?_
  refine z_aload_n X dX0_copyFrom_61 rfl 0 rfl ?_
  refine z_get (v := .ref (a_t 7)) X k_X0_copyFrom_9 0 rfl rfl dX0_copyFrom_62 ?_
  refine z_iconst (v := (0 : Int32)) X dX0_copyFrom_65 (by decide) ?_
  refine z_aload_n X dX0_copyFrom_66 rfl 0 rfl ?_
  refine z_get (v := .int (o8 3 0)) X k_X0_copyFrom_25 0 rfl rfl dX0_copyFrom_67 ?_
  obtain ⟨g91, g92, hF⟩ := gc_e hF
  obtain ⟨o10, eo10, hF⟩ := nx_e hF
  refine z_copyi (ws' := (w_X0_copyFrom cA h_t a_t o10 h_p1 a_p1 o_p1)) X k_X0_copyFrom_n48 5 1 rfl rfl g91 g92 (by rw [eo10]; rfl) (by rw [hR]; exact Nat.le_of_ble_eq_true rfl) (by rw [hR]; exact Nat.le_of_ble_eq_true rfl) dX0_copyFrom_70 ?_
  refine z_aload_n X dX0_copyFrom_73 rfl 1 rfl ?_
  refine z_get (v := .ref (a_p1 8)) X k_X0_copyFrom_15 4 rfl rfl dX0_copyFrom_74 ?_
  refine z_iconst (v := (0 : Int32)) X dX0_copyFrom_77 (by decide) ?_
  refine z_aload_n X dX0_copyFrom_78 rfl 0 rfl ?_
  refine z_get (v := .ref (a_t 8)) X k_X0_copyFrom_15 0 rfl rfl dX0_copyFrom_79 ?_
  refine z_iconst (v := (0 : Int32)) X dX0_copyFrom_82 (by decide) ?_
  refine z_aload_n X dX0_copyFrom_83 rfl 0 rfl ?_
  refine z_get (v := .int (o10 3 0)) X k_X0_copyFrom_25 0 rfl rfl dX0_copyFrom_84 ?_
  obtain ⟨g111, g112, hF⟩ := gc_e hF
  obtain ⟨o12, eo12, hF⟩ := nx_e hF
  refine z_copyi (ws' := (w_X0_copyFrom cA h_t a_t o12 h_p1 a_p1 o_p1)) X k_X0_copyFrom_n48 6 2 rfl rfl g111 g112 (by rw [eo12]; rfl) (by rw [hR]; exact Nat.le_of_ble_eq_true rfl) (by rw [hR]; exact Nat.le_of_ble_eq_true rfl) dX0_copyFrom_87 ?_
  refine z_aload_n X dX0_copyFrom_90 rfl 1 rfl ?_
  refine z_get (v := .ref (a_p1 9)) X k_X0_copyFrom_18 4 rfl rfl dX0_copyFrom_91 ?_
  refine z_iconst (v := (0 : Int32)) X dX0_copyFrom_94 (by decide) ?_
  refine z_aload_n X dX0_copyFrom_95 rfl 0 rfl ?_
  refine z_get (v := .ref (a_t 9)) X k_X0_copyFrom_18 0 rfl rfl dX0_copyFrom_96 ?_
  refine z_iconst (v := (0 : Int32)) X dX0_copyFrom_99 (by decide) ?_
  refine z_aload_n X dX0_copyFrom_100 rfl 0 rfl ?_
  refine z_get (v := .int (o12 3 0)) X k_X0_copyFrom_25 0 rfl rfl dX0_copyFrom_101 ?_
  obtain ⟨g131, g132, hF⟩ := gc_e hF
  obtain ⟨o14, eo14, hF⟩ := nx_e hF
  refine z_copyi (ws' := (w_X0_copyFrom cA h_t a_t o14 h_p1 a_p1 o_p1)) X k_X0_copyFrom_n48 7 3 rfl rfl g131 g132 (by rw [eo14]; rfl) (by rw [hR]; exact Nat.le_of_ble_eq_true rfl) (by rw [hR]; exact Nat.le_of_ble_eq_true rfl) dX0_copyFrom_104 ?_
  cases hF
  exact z_vret X hA hQ hr dX0_copyFrom_107 (Nat.le_refl _) (Nat.le_refl _)
abbrev w_X1_add (cA : Nat → ClassId) (h_t : Nat) (a_t : Nat → Nat) (o_t : Ob) : va_W := [(h_t, .inr (1, [.int (o_t 0 0), .ref (a_t 1), .ref (a_t 2), .ref (a_t 3)])), (a_t 1, .inl (cA 0, 9, .inl (o_t 1))), (a_t 2, .inl (cA 0, 9, .inl (o_t 2))), (a_t 3, .inl (cA 0, 9, .inl (o_t 3)))]
set_option maxRecDepth 20000 in
theorem h_X1_add_X1 : ∀ w ∈ wsX10, w ∈ wsX1_add := by decide +kernel
set_option maxRecDepth 20000 in
theorem k_X1_add_11 : ZF wsX1_add RX1 11 1 1 RX1 TX1 4 := ⟨rfl, by decide, h_X1_add_X1, by decide +kernel⟩
set_option maxRecDepth 20000 in
theorem k_X1_add_15 : ZF wsX1_add RX1 15 1 2 RX1 TX1 4 := ⟨rfl, by decide, h_X1_add_X1, by decide +kernel⟩
set_option maxRecDepth 20000 in
theorem k_X1_add_18 : ZF wsX1_add RX1 18 1 3 RX1 TX1 4 := ⟨rfl, by decide, h_X1_add_X1, by decide +kernel⟩
set_option maxRecDepth 20000 in
theorem k_X1_add_21 : ZF wsX1_add RX1 21 1 0 RX1 TX1 4 := ⟨rfl, by decide, h_X1_add_X1, by decide +kernel⟩
set_option maxHeartbeats 8000000 in
set_option maxRecDepth 100000 in
theorem c_X1_add (l : Launch) (D : va_G) (cA : Nat → ClassId) (g : Nat → Nat) (sz : Nat) (h_t : Nat) (a_t : Nat → Nat) (o_t : Ob) (v1 : Int32) (v2 : Int32) (v3 : Int32) (o_t' : Ob) (hF : f_X1_add o_t v1 v2 v3 = some o_t') : Met l yX1_add wsX1_add ({ frames := 0, cells := 0, slots := 0, locals := 0 }) (va_Pc [.ref h_t, .int v1, .int v2, .int v3] (PreW D cA g sz (w_X1_add cA h_t a_t o_t))) (va_Qv (fun (_ : Unit) => True) (PostW D cA sz (w_X1_add cA h_t a_t o_t) (w_X1_add cA h_t a_t o_t')) (va_A (w_X1_add cA h_t a_t o_t) sz)) 0 0 (va_A (w_X1_add cA h_t a_t o_t) sz) := by
  refine z_start (cc := cX1_add) (maxL := 4) (ret := none) (lv0 := [(0, .ref h_t), (1, .int v1), (2, .int v2), (3, .int v3)]) (Qc := fun sz => va_Qv (fun (_ : Unit) => True) (PostW D cA sz (w_X1_add cA h_t a_t o_t) (w_X1_add cA h_t a_t o_t')) (va_A (w_X1_add cA h_t a_t o_t) sz)) (free := fun sz => va_A (w_X1_add cA h_t a_t o_t) sz) (by decide +kernel) rfl rfl (Nat.le_of_ble_eq_true rfl) ?_
  intro p e R s m args below meth c A Q hR hA hQ X hr hin
  unfold f_X1_add at hF
  refine z_aload_n X dX1_add_0 rfl 0 rfl ?_
  refine z_get (v := .int (o_t 0 0)) X k_X1_add_21 0 rfl rfl dX1_add_1 ?_
  refine z_bipush (v := (9 : Int32)) X dX1_add_4 (by decide) ?_
  have hF := if_e hF
  refine z_icmp_ge (tgt := 49) X dX1_add_6 (by decide) (fun c8 => ?_) (fun c8 => ?_)
  · have hF := hF.1 c8
    cases hF
    exact z_vret X hA hQ hr dX1_add_49 (Nat.le_refl _) (Nat.le_refl _)
  · have hF := hF.2 c8
    refine z_aload_n X dX1_add_9 rfl 0 rfl ?_
    refine z_get (v := .ref (a_t 1)) X k_X1_add_11 0 rfl rfl dX1_add_10 ?_
    refine z_aload_n X dX1_add_13 rfl 0 rfl ?_
    refine z_get (v := .int (o_t 0 0)) X k_X1_add_21 0 rfl rfl dX1_add_14 ?_
    refine z_iload_n X dX1_add_17 rfl 1 rfl ?_
    obtain ⟨g1, hF⟩ := gi_e hF
    obtain ⟨o2, eo2, hF⟩ := nx_e hF
    refine z_iast (ws' := (w_X1_add cA h_t a_t o2)) X 1 rfl g1 (by rw [eo2]; rfl) dX1_add_18 ?_
    refine z_aload_n X dX1_add_19 rfl 0 rfl ?_
    refine z_get (v := .ref (a_t 2)) X k_X1_add_15 0 rfl rfl dX1_add_20 ?_
    refine z_aload_n X dX1_add_23 rfl 0 rfl ?_
    refine z_get (v := .int (o2 0 0)) X k_X1_add_21 0 rfl rfl dX1_add_24 ?_
    refine z_iload_n X dX1_add_27 rfl 2 rfl ?_
    obtain ⟨g3, hF⟩ := gi_e hF
    obtain ⟨o4, eo4, hF⟩ := nx_e hF
    refine z_iast (ws' := (w_X1_add cA h_t a_t o4)) X 2 rfl g3 (by rw [eo4]; rfl) dX1_add_28 ?_
    refine z_aload_n X dX1_add_29 rfl 0 rfl ?_
    refine z_get (v := .ref (a_t 3)) X k_X1_add_18 0 rfl rfl dX1_add_30 ?_
    refine z_aload_n X dX1_add_33 rfl 0 rfl ?_
    refine z_get (v := .int (o4 0 0)) X k_X1_add_21 0 rfl rfl dX1_add_34 ?_
    refine z_iload_n X dX1_add_37 rfl 3 rfl ?_
    obtain ⟨g5, hF⟩ := gi_e hF
    obtain ⟨o6, eo6, hF⟩ := nx_e hF
    refine z_iast (ws' := (w_X1_add cA h_t a_t o6)) X 3 rfl g5 (by rw [eo6]; rfl) dX1_add_38 ?_
    refine z_aload_n X dX1_add_39 rfl 0 rfl ?_
    refine z_dup X dX1_add_40 rfl ?_
    refine z_get (v := .int (o6 0 0)) X k_X1_add_21 0 rfl rfl dX1_add_41 ?_
    refine z_iconst (v := (1 : Int32)) X dX1_add_44 (by decide) ?_
    refine z_iadd X dX1_add_45 ?_
    obtain ⟨o7, eo7, hF⟩ := nx_e hF
    refine z_put (ws' := (w_X1_add cA h_t a_t o7)) X k_X1_add_21 tyX1 tyX1_ok nmX1 rfl rfl 0 rfl (Nat.le_of_ble_eq_true rfl) (by rw [eo7]; rfl) dX1_add_46 ?_
    cases hF
    exact z_vret X hA hQ hr dX1_add_49 (Nat.le_refl _) (Nat.le_refl _)
abbrev w_X2_newCall (cA : Nat → ClassId) (h_t : Nat) (a_t : Nat → Nat) (o_t : Ob) : va_W := [(h_t, .inr (2, [.ref (a_t 0), .int (o_t 1 0), .int (o_t 2 0)])), (a_t 0, .inl (cA 0, 60, .inl (o_t 0)))]
set_option maxRecDepth 20000 in
theorem h_X2_newCall_X2 : ∀ w ∈ wsX20, w ∈ wsX2_newCall := by decide +kernel
set_option maxRecDepth 20000 in
theorem k_X2_newCall_15 : ZF wsX2_newCall RX2 15 2 2 RX2 TX2 3 := ⟨rfl, by decide, h_X2_newCall_X2, by decide +kernel⟩
set_option maxHeartbeats 8000000 in
set_option maxRecDepth 100000 in
theorem c_X2_newCall (l : Launch) (D : va_G) (cA : Nat → ClassId) (g : Nat → Nat) (sz : Nat) (h_t : Nat) (a_t : Nat → Nat) (o_t : Ob)  (o_t' : Ob) (hF : f_X2_newCall o_t = some o_t') : Met l yX2_newCall wsX2_newCall ({ frames := 0, cells := 0, slots := 0, locals := 0 }) (va_Pc [.ref h_t] (PreW D cA g sz (w_X2_newCall cA h_t a_t o_t))) (va_Qv (fun (_ : Unit) => True) (PostW D cA sz (w_X2_newCall cA h_t a_t o_t) (w_X2_newCall cA h_t a_t o_t')) (va_A (w_X2_newCall cA h_t a_t o_t) sz)) 0 0 (va_A (w_X2_newCall cA h_t a_t o_t) sz) := by
  refine z_start (cc := cX2_newCall) (maxL := 1) (ret := none) (lv0 := [(0, .ref h_t)]) (Qc := fun sz => va_Qv (fun (_ : Unit) => True) (PostW D cA sz (w_X2_newCall cA h_t a_t o_t) (w_X2_newCall cA h_t a_t o_t')) (va_A (w_X2_newCall cA h_t a_t o_t) sz)) (free := fun sz => va_A (w_X2_newCall cA h_t a_t o_t) sz) (by decide +kernel) rfl rfl (Nat.le_of_ble_eq_true rfl) ?_
  intro p e R s m args below meth c A Q hR hA hQ X hr hin
  unfold f_X2_newCall at hF
  refine z_aload_n X dX2_newCall_0 rfl 0 rfl ?_
  refine z_iconst (v := (1 : Int32)) X dX2_newCall_1 (by decide) ?_
  obtain ⟨o1, eo1, hF⟩ := nx_e hF
  refine z_putZ (ws' := (w_X2_newCall cA h_t a_t o1)) X k_X2_newCall_15 tyX2 tyX2_ok nmX2 rfl rfl 0 rfl (Nat.le_of_ble_eq_true rfl) (by rw [eo1]; rfl) (Or.inr rfl) dX2_newCall_2 ?_
  cases hF
  exact z_vret X hA hQ hr dX2_newCall_5 (Nat.le_refl _) (Nat.le_refl _)
set_option maxRecDepth 20000 in
theorem h_X2_pass_X2 : ∀ w ∈ wsX20, w ∈ wsX2_pass := by decide +kernel
set_option maxRecDepth 20000 in
theorem k_X2_pass_9 : ZF wsX2_pass RX2 9 2 0 RX2 TX2 3 := ⟨rfl, by decide, h_X2_pass_X2, by decide +kernel⟩
set_option maxRecDepth 20000 in
theorem k_X2_pass_15 : ZF wsX2_pass RX2 15 2 2 RX2 TX2 3 := ⟨rfl, by decide, h_X2_pass_X2, by decide +kernel⟩
set_option maxRecDepth 20000 in
theorem k_X2_pass_19 : ZF wsX2_pass RX2 19 2 1 RX2 TX2 3 := ⟨rfl, by decide, h_X2_pass_X2, by decide +kernel⟩
set_option maxHeartbeats 8000000 in
set_option maxRecDepth 100000 in
theorem c_X2_pass (l : Launch) (D : va_G) (cA : Nat → ClassId) (g : Nat → Nat) (sz : Nat) (h_t : Nat) (a_t : Nat → Nat) (o_t : Ob)  (o_t' : Ob) (hF : f_X2_pass o_t = some o_t') : Met l yX2_pass wsX2_pass ({ frames := 0, cells := 0, slots := 0, locals := 0 }) (va_Pc [.ref h_t] (PreW D cA g sz (w_X2_newCall cA h_t a_t o_t))) (va_Qv (fun (_ : Unit) => True) (PostW D cA sz (w_X2_newCall cA h_t a_t o_t) (w_X2_newCall cA h_t a_t o_t')) (va_A (w_X2_newCall cA h_t a_t o_t) sz)) 0 0 (va_A (w_X2_newCall cA h_t a_t o_t) sz) := by
  refine z_start (cc := cX2_pass) (maxL := 2) (ret := none) (lv0 := [(0, .ref h_t)]) (Qc := fun sz => va_Qv (fun (_ : Unit) => True) (PostW D cA sz (w_X2_newCall cA h_t a_t o_t) (w_X2_newCall cA h_t a_t o_t')) (va_A (w_X2_newCall cA h_t a_t o_t) sz)) (free := fun sz => va_A (w_X2_newCall cA h_t a_t o_t) sz) (by decide +kernel) rfl rfl (Nat.le_of_ble_eq_true rfl) ?_
  intro p e R s m args below meth c A Q hR hA hQ X hr hin
  unfold f_X2_pass at hF
  refine z_aload_n X dX2_pass_0 rfl 0 rfl ?_
  refine z_get (v := .int (o_t 2 0)) X k_X2_pass_15 0 rfl rfl dX2_pass_1 ?_
  obtain ⟨K5, eK5, hF⟩ := nx_e hF
  have K5_l : ∀ (q4 : Ob), K5 q4 = some o_t' → ZW p l e R s m args below meth c D A 2 0 0 Q (w_X2_newCall cA h_t a_t q4) [(0, .ref h_t)] 17 [] := by
    intro q4 hF
    rw [eK5] at hF
    refine z_iconst (v := (1 : Int32)) X dX2_pass_17 (by decide) ?_
    refine z_istore_n (lv' := [(1, .int (1 : Int32)), (0, .ref h_t)]) X dX2_pass_18 rfl (by decide) rfl ?_
    obtain ⟨o16, hL, hF⟩ := zb1_e hF
    have L17_x : ∀ (o16' : Ob), o16' = o16 → ZW p l e R s m args below meth c D A 2 0 0 Q (w_X2_newCall cA h_t a_t o16') [] 56 [] := by
      intro o16' hz
      cases hz
      cases hF
      exact z_vret X hA hQ hr dX2_pass_56 (Nat.le_refl _) (Nat.le_refl _)
    obtain ⟨B25, hBB25, hL⟩ := zl2_b hL
    have L17 : ∀ (n : Nat) (o14 : Ob) (k15 : Int32), zl2 B25 n o14 k15 = some o16 → ZW p l e R s m args below meth c D A 2 0 0 Q (w_X2_newCall cA h_t a_t o14) [(0, .ref h_t), (1, .int k15)] 19 [] := by
      intro n
      induction n with
      | zero => intro o14 k15 hL; cases hL
      | succ n ih =>
        intro o14 k15 hL
        obtain ⟨zz18, hF, hL⟩ := zl2_e hL
        rw [hBB25] at hF
        refine z_iload_n X dX2_pass_19 rfl 1 rfl ?_
        refine z_iconst (v := (4 : Int32)) X dX2_pass_20 (by decide) ?_
        have hF := if_e hF
        refine z_icmp_gt (tgt := 56) X dX2_pass_21 (by decide) (fun c24 => ?_) (fun c24 => ?_)
        · have hF := hF.1 c24
          cases hF
          have hL := Option.some.inj hL
          refine z_lv (lv' := []) [] rfl ?_
          exact L17_x o14 hL
        · have hF := hF.2 c24
          refine z_aload_n X dX2_pass_24 rfl 0 rfl ?_
          refine z_get (v := .int (o14 1 0)) X k_X2_pass_19 0 rfl rfl dX2_pass_25 ?_
          refine z_bipush (v := (60 : Int32)) X dX2_pass_28 (by decide) ?_
          have hF := if_e hF
          refine z_icmp_ge (tgt := 56) X dX2_pass_30 (by decide) (fun c23 => ?_) (fun c23 => ?_)
          · have hF := hF.1 c23
            cases hF
            have hL := Option.some.inj hL
            refine z_lv (lv' := []) [] rfl ?_
            exact L17_x o14 hL
          · have hF := hF.2 c23
            refine z_aload_n X dX2_pass_33 rfl 0 rfl ?_
            refine z_get (v := .ref (a_t 0)) X k_X2_pass_9 0 rfl rfl dX2_pass_34 ?_
            refine z_aload_n X dX2_pass_37 rfl 0 rfl ?_
            refine z_dup X dX2_pass_38 rfl ?_
            refine z_get (v := .int (o14 1 0)) X k_X2_pass_19 0 rfl rfl dX2_pass_39 ?_
            refine z_dup_x1 X dX2_pass_42 rfl rfl ?_
            refine z_iconst (v := (1 : Int32)) X dX2_pass_43 (by decide) ?_
            refine z_iadd X dX2_pass_44 ?_
            obtain ⟨o19, eo19, hF⟩ := nx_e hF
            refine z_put (ws' := (w_X2_newCall cA h_t a_t o19)) X k_X2_pass_19 tyX2 tyX2_ok nmX2 rfl rfl 0 rfl (Nat.le_of_ble_eq_true rfl) (by rw [eo19]; rfl) dX2_pass_45 ?_
            refine z_iload_n X dX2_pass_48 rfl 1 rfl ?_
            obtain ⟨g20, hF⟩ := gi_e hF
            obtain ⟨o21, eo21, hF⟩ := nx_e hF
            refine z_iast (ws' := (w_X2_newCall cA h_t a_t o21)) X 1 rfl g20 (by rw [eo21]; rfl) dX2_pass_49 ?_
            obtain ⟨x22, ex22, hF⟩ := nx_e hF
            refine z_iinc (v := x22) (lv' := [(1, .int x22), (0, .ref h_t)]) (j := 1) X dX2_pass_50 rfl (by rw [ex22]; rfl) (by decide) rfl ?_
            refine z_goto (tgt := 19) X dX2_pass_53 (by decide) ?_
            cases hF
            refine z_lv (lv' := [(0, .ref h_t), (1, .int x22)]) [1, 0] rfl ?_
            exact ih o21 x22 hL
    refine z_lv (lv' := [(0, .ref h_t), (1, .int (1 : Int32))]) [1, 0] rfl ?_
    exact L17 FU q4 (1 : Int32) hL
  have hF := if_e hF
  refine z_if_eq (tgt := 17) X dX2_pass_4 (by decide) (fun c28 => ?_) (fun c28 => ?_)
  · have hF := hF.1 c28
    refine z_lv (lv' := [(0, .ref h_t)]) [0] rfl ?_
    exact K5_l o_t hF
  · have hF := hF.2 c28
    refine z_aload_n X dX2_pass_7 rfl 0 rfl ?_
    refine z_iconst (v := (0 : Int32)) X dX2_pass_8 (by decide) ?_
    obtain ⟨o26, eo26, hF⟩ := nx_e hF
    refine z_put (ws' := (w_X2_newCall cA h_t a_t o26)) X k_X2_pass_19 tyX2 tyX2_ok nmX2 rfl rfl 0 rfl (Nat.le_of_ble_eq_true rfl) (by rw [eo26]; rfl) dX2_pass_9 ?_
    refine z_aload_n X dX2_pass_12 rfl 0 rfl ?_
    refine z_iconst (v := (0 : Int32)) X dX2_pass_13 (by decide) ?_
    obtain ⟨o27, eo27, hF⟩ := nx_e hF
    refine z_putZ (ws' := (w_X2_newCall cA h_t a_t o27)) X k_X2_pass_15 tyX2 tyX2_ok nmX2 rfl rfl 0 rfl (Nat.le_of_ble_eq_true rfl) (by rw [eo27]; rfl) (Or.inl rfl) dX2_pass_14 ?_
    refine z_lv (lv' := [(0, .ref h_t)]) [0] rfl ?_
    exact K5_l o27 hF
abbrev w_X3_place (cA : Nat → ClassId) (h_t : Nat) (a_t : Nat → Nat) (o_t : Ob) : va_W := [(h_t, .inr (3, [.ref (a_t 0), .int (o_t 1 0), .int (o_t 2 0)]))]
set_option maxRecDepth 20000 in
theorem h_X3_place_X3 : ∀ w ∈ wsX30, w ∈ wsX3_place := by decide +kernel
set_option maxRecDepth 20000 in
theorem k_X3_place_17 : ZF wsX3_place RX3 17 3 1 RX3 TX3 3 := ⟨rfl, by decide, h_X3_place_X3, by decide +kernel⟩
set_option maxHeartbeats 8000000 in
set_option maxRecDepth 100000 in
theorem c_X3_place (l : Launch) (D : va_G) (cA : Nat → ClassId) (g : Nat → Nat) (sz : Nat) (h_t : Nat) (a_t : Nat → Nat) (o_t : Ob) (v1 : Int32) (rv : Int32) (hF : f_X3_place o_t v1 = some rv) : Met l yX3_place wsX3_place ({ frames := 0, cells := 0, slots := 0, locals := 0 }) (va_Pc [.ref h_t, .int v1] (PreW D cA g sz (w_X3_place cA h_t a_t o_t))) (va_Qi (fun (r : Int32) (_ : Unit) => r = rv) (PostW D cA sz (w_X3_place cA h_t a_t o_t) (w_X3_place cA h_t a_t o_t)) (va_A (w_X3_place cA h_t a_t o_t) sz)) 0 0 (va_A (w_X3_place cA h_t a_t o_t) sz) := by
  refine z_start (cc := cX3_place) (maxL := 3) (ret := (some .int)) (lv0 := [(0, .ref h_t), (1, .int v1)]) (Qc := fun sz => va_Qi (fun (r : Int32) (_ : Unit) => r = rv) (PostW D cA sz (w_X3_place cA h_t a_t o_t) (w_X3_place cA h_t a_t o_t)) (va_A (w_X3_place cA h_t a_t o_t) sz)) (free := fun sz => va_A (w_X3_place cA h_t a_t o_t) sz) (by decide +kernel) rfl rfl (Nat.le_of_ble_eq_true rfl) ?_
  intro p e R s m args below meth c A Q hR hA hQ X hr hin
  unfold f_X3_place at hF
  refine z_aload_n X dX3_place_0 rfl 0 rfl ?_
  refine z_get (v := .int (o_t 1 0)) X k_X3_place_17 0 rfl rfl dX3_place_1 ?_
  refine z_iload_n X dX3_place_4 rfl 1 rfl ?_
  refine z_iadd X dX3_place_5 ?_
  obtain ⟨x1, ex1, hF⟩ := nx_e hF
  refine z_nm ex1 ?_
  refine z_istore_n (lv' := [(2, .int x1), (0, .ref h_t), (1, .int v1)]) X dX3_place_6 rfl (by decide) rfl ?_
  refine z_iload_n X dX3_place_7 rfl 0 rfl ?_
  refine z_bipush (v := (8 : Int32)) X dX3_place_8 (by decide) ?_
  have hF := if_e hF
  refine z_icmp_ge (tgt := 17) X dX3_place_10 (by decide) (fun c2 => ?_) (fun c2 => ?_)
  · have hF := hF.1 c2
    refine z_iload_n X dX3_place_17 rfl 0 rfl ?_
    refine z_bipush (v := (8 : Int32)) X dX3_place_18 (by decide) ?_
    refine z_isub X dX3_place_20 ?_
    cases hF
    exact z_iret X hA hQ hr rfl dX3_place_21 (Nat.le_refl _) (Nat.le_refl _)
  · have hF := hF.2 c2
    refine z_iload_n X dX3_place_13 rfl 0 rfl ?_
    refine z_goto (tgt := 21) X dX3_place_14 (by decide) ?_
    cases hF
    exact z_iret X hA hQ hr rfl dX3_place_21 (Nat.le_refl _) (Nat.le_refl _)
set_option maxRecDepth 20000 in
theorem h_X3_forget_X3 : ∀ w ∈ wsX30, w ∈ wsX3_forget := by decide +kernel
set_option maxRecDepth 20000 in
theorem k_X3_forget_21 : ZF wsX3_forget RX3 21 3 2 RX3 TX3 3 := ⟨rfl, by decide, h_X3_forget_X3, by decide +kernel⟩
set_option maxHeartbeats 8000000 in
set_option maxRecDepth 100000 in
theorem c_X3_forget (l : Launch) (D : va_G) (cA : Nat → ClassId) (g : Nat → Nat) (sz : Nat) (h_t : Nat) (a_t : Nat → Nat) (o_t : Ob)  (o_t' : Ob) (hF : f_X3_forget o_t = some o_t') : Met l yX3_forget wsX3_forget ({ frames := 0, cells := 0, slots := 0, locals := 0 }) (va_Pc [.ref h_t] (PreW D cA g sz (w_X3_place cA h_t a_t o_t))) (va_Qv (fun (_ : Unit) => True) (PostW D cA sz (w_X3_place cA h_t a_t o_t) (w_X3_place cA h_t a_t o_t')) (va_A (w_X3_place cA h_t a_t o_t) sz)) 0 0 (va_A (w_X3_place cA h_t a_t o_t) sz) := by
  refine z_start (cc := cX3_forget) (maxL := 1) (ret := none) (lv0 := [(0, .ref h_t)]) (Qc := fun sz => va_Qv (fun (_ : Unit) => True) (PostW D cA sz (w_X3_place cA h_t a_t o_t) (w_X3_place cA h_t a_t o_t')) (va_A (w_X3_place cA h_t a_t o_t) sz)) (free := fun sz => va_A (w_X3_place cA h_t a_t o_t) sz) (by decide +kernel) rfl rfl (Nat.le_of_ble_eq_true rfl) ?_
  intro p e R s m args below meth c A Q hR hA hQ X hr hin
  unfold f_X3_forget at hF
  refine z_aload_n X dX3_forget_0 rfl 0 rfl ?_
  refine z_iconst (v := (0 : Int32)) X dX3_forget_1 (by decide) ?_
  obtain ⟨o1, eo1, hF⟩ := nx_e hF
  refine z_put (ws' := (w_X3_place cA h_t a_t o1)) X k_X3_forget_21 tyX3 tyX3_ok nmX3 rfl rfl 0 rfl (Nat.le_of_ble_eq_true rfl) (by rw [eo1]; rfl) dX3_forget_2 ?_
  cases hF
  exact z_vret X hA hQ hr dX3_forget_5 (Nat.le_refl _) (Nat.le_refl _)
abbrev w_X10_copyFrom (cA : Nat → ClassId) (h_t : Nat) (a_t : Nat → Nat) (o_t : Ob) (h_p1 : Nat) (a_p1 : Nat → Nat) (o_p1 : Ob) : va_W := [(h_t, .inr (10, [.int (o_t 0 0), .ref (a_t 1), .ref (a_t 2), .ref (a_t 3), .ref (a_t 4)])), (a_t 1, .inl (cA 0, 8, .inl (o_t 1))), (a_t 2, .inl (cA 0, 8, .inl (o_t 2))), (a_t 3, .inl (cA 0, 8, .inl (o_t 3))), (a_t 4, .inl (cA 0, 8, .inl (o_t 4))), (h_p1, .inr (10, [.int (o_p1 0 0), .ref (a_p1 1), .ref (a_p1 2), .ref (a_p1 3), .ref (a_p1 4)])), (a_p1 1, .inl (cA 0, 8, .inl (o_p1 1))), (a_p1 2, .inl (cA 0, 8, .inl (o_p1 2))), (a_p1 3, .inl (cA 0, 8, .inl (o_p1 3))), (a_p1 4, .inl (cA 0, 8, .inl (o_p1 4)))]
set_option maxRecDepth 20000 in
theorem h_X10_copyFrom_X10 : ∀ w ∈ wsX100, w ∈ wsX10_copyFrom := by decide +kernel
set_option maxRecDepth 20000 in
theorem k_X10_copyFrom_9 : ZF wsX10_copyFrom RX10 9 10 1 RX10 TX10 5 := ⟨rfl, by decide, h_X10_copyFrom_X10, by decide +kernel⟩
set_option maxRecDepth 20000 in
theorem k_X10_copyFrom_15 : ZF wsX10_copyFrom RX10 15 10 2 RX10 TX10 5 := ⟨rfl, by decide, h_X10_copyFrom_X10, by decide +kernel⟩
set_option maxRecDepth 20000 in
theorem k_X10_copyFrom_18 : ZF wsX10_copyFrom RX10 18 10 3 RX10 TX10 5 := ⟨rfl, by decide, h_X10_copyFrom_X10, by decide +kernel⟩
set_option maxRecDepth 20000 in
theorem k_X10_copyFrom_21 : ZF wsX10_copyFrom RX10 21 10 4 RX10 TX10 5 := ⟨rfl, by decide, h_X10_copyFrom_X10, by decide +kernel⟩
set_option maxRecDepth 20000 in
theorem k_X10_copyFrom_24 : ZF wsX10_copyFrom RX10 24 10 0 RX10 TX10 5 := ⟨rfl, by decide, h_X10_copyFrom_X10, by decide +kernel⟩
set_option maxRecDepth 20000 in
theorem k_X10_copyFrom_n28 : ZN wsX10_copyFrom RX10 28 arraycopyName "java/lang/System" := ⟨by decide +kernel, by decide +kernel, by decide +kernel, by decide +kernel⟩
set_option maxHeartbeats 8000000 in
set_option maxRecDepth 100000 in
theorem c_X10_copyFrom (l : Launch) (D : va_G) (cA : Nat → ClassId) (g : Nat → Nat) (sz : Nat) (h_t : Nat) (a_t : Nat → Nat) (o_t : Ob) (h_p1 : Nat) (a_p1 : Nat → Nat) (o_p1 : Ob)  (o_t' : Ob) (hF : f_X10_copyFrom o_t o_p1 = some o_t') : Met l yX10_copyFrom wsX10_copyFrom ({ frames := 1, cells := 0, slots := 0, locals := 48 }) (va_Pc [.ref h_t, .ref h_p1] (PreW D cA g sz (w_X10_copyFrom cA h_t a_t o_t h_p1 a_p1 o_p1))) (va_Qv (fun (_ : Unit) => True) (PostW D cA sz (w_X10_copyFrom cA h_t a_t o_t h_p1 a_p1 o_p1) (w_X10_copyFrom cA h_t a_t o_t' h_p1 a_p1 o_p1)) (va_A (w_X10_copyFrom cA h_t a_t o_t h_p1 a_p1 o_p1) sz)) 0 0 (va_A (w_X10_copyFrom cA h_t a_t o_t h_p1 a_p1 o_p1) sz) := by
  refine z_start (cc := cX10_copyFrom) (maxL := 2) (ret := none) (lv0 := [(0, .ref h_t), (1, .ref h_p1)]) (Qc := fun sz => va_Qv (fun (_ : Unit) => True) (PostW D cA sz (w_X10_copyFrom cA h_t a_t o_t h_p1 a_p1 o_p1) (w_X10_copyFrom cA h_t a_t o_t' h_p1 a_p1 o_p1)) (va_A (w_X10_copyFrom cA h_t a_t o_t h_p1 a_p1 o_p1) sz)) (free := fun sz => va_A (w_X10_copyFrom cA h_t a_t o_t h_p1 a_p1 o_p1) sz) (by decide +kernel) rfl rfl (Nat.le_of_ble_eq_true rfl) ?_
  intro p e R s m args below meth c A Q hR hA hQ X hr hin
  unfold f_X10_copyFrom at hF
  refine z_aload_n X dX10_copyFrom_0 rfl 0 rfl ?_
  refine z_aload_n X dX10_copyFrom_1 rfl 1 rfl ?_
  refine z_get (v := .int (o_p1 0 0)) X k_X10_copyFrom_24 5 rfl rfl dX10_copyFrom_2 ?_
  obtain ⟨o1, eo1, hF⟩ := nx_e hF
  refine z_put (ws' := (w_X10_copyFrom cA h_t a_t o1 h_p1 a_p1 o_p1)) X k_X10_copyFrom_24 tyX10 tyX10_ok nmX10 rfl rfl 0 rfl (Nat.le_of_ble_eq_true rfl) (by rw [eo1]; rfl) dX10_copyFrom_5 ?_
  refine z_aload_n X dX10_copyFrom_8 rfl 1 rfl ?_
  refine z_get (v := .ref (a_p1 1)) X k_X10_copyFrom_9 5 rfl rfl dX10_copyFrom_9 ?_
  refine z_iconst (v := (0 : Int32)) X dX10_copyFrom_12 (by decide) ?_
  refine z_aload_n X dX10_copyFrom_13 rfl 0 rfl ?_
  refine z_get (v := .ref (a_t 1)) X k_X10_copyFrom_9 0 rfl rfl dX10_copyFrom_14 ?_
  refine z_iconst (v := (0 : Int32)) X dX10_copyFrom_17 (by decide) ?_
  refine z_bipush (v := (8 : Int32)) X dX10_copyFrom_18 (by decide) ?_
  obtain ⟨g21, g22, hF⟩ := gc_e hF
  obtain ⟨o3, eo3, hF⟩ := nx_e hF
  refine z_copyi (ws' := (w_X10_copyFrom cA h_t a_t o3 h_p1 a_p1 o_p1)) X k_X10_copyFrom_n28 6 1 rfl rfl g21 g22 (by rw [eo3]; rfl) (by rw [hR]; exact Nat.le_of_ble_eq_true rfl) (by rw [hR]; exact Nat.le_of_ble_eq_true rfl) dX10_copyFrom_20 ?_
  refine z_aload_n X dX10_copyFrom_23 rfl 1 rfl ?_
  refine z_get (v := .ref (a_p1 2)) X k_X10_copyFrom_15 5 rfl rfl dX10_copyFrom_24 ?_
  refine z_iconst (v := (0 : Int32)) X dX10_copyFrom_27 (by decide) ?_
  refine z_aload_n X dX10_copyFrom_28 rfl 0 rfl ?_
  refine z_get (v := .ref (a_t 2)) X k_X10_copyFrom_15 0 rfl rfl dX10_copyFrom_29 ?_
  refine z_iconst (v := (0 : Int32)) X dX10_copyFrom_32 (by decide) ?_
  refine z_bipush (v := (8 : Int32)) X dX10_copyFrom_33 (by decide) ?_
  obtain ⟨g41, g42, hF⟩ := gc_e hF
  obtain ⟨o5, eo5, hF⟩ := nx_e hF
  refine z_copyi (ws' := (w_X10_copyFrom cA h_t a_t o5 h_p1 a_p1 o_p1)) X k_X10_copyFrom_n28 7 2 rfl rfl g41 g42 (by rw [eo5]; rfl) (by rw [hR]; exact Nat.le_of_ble_eq_true rfl) (by rw [hR]; exact Nat.le_of_ble_eq_true rfl) dX10_copyFrom_35 ?_
  refine z_aload_n X dX10_copyFrom_38 rfl 1 rfl ?_
  refine z_get (v := .ref (a_p1 3)) X k_X10_copyFrom_18 5 rfl rfl dX10_copyFrom_39 ?_
  refine z_iconst (v := (0 : Int32)) X dX10_copyFrom_42 (by decide) ?_
  refine z_aload_n X dX10_copyFrom_43 rfl 0 rfl ?_
  refine z_get (v := .ref (a_t 3)) X k_X10_copyFrom_18 0 rfl rfl dX10_copyFrom_44 ?_
  refine z_iconst (v := (0 : Int32)) X dX10_copyFrom_47 (by decide) ?_
  refine z_bipush (v := (8 : Int32)) X dX10_copyFrom_48 (by decide) ?_
  obtain ⟨g61, g62, hF⟩ := gc_e hF
  obtain ⟨o7, eo7, hF⟩ := nx_e hF
  refine z_copyi (ws' := (w_X10_copyFrom cA h_t a_t o7 h_p1 a_p1 o_p1)) X k_X10_copyFrom_n28 8 3 rfl rfl g61 g62 (by rw [eo7]; rfl) (by rw [hR]; exact Nat.le_of_ble_eq_true rfl) (by rw [hR]; exact Nat.le_of_ble_eq_true rfl) dX10_copyFrom_50 ?_
  refine z_aload_n X dX10_copyFrom_53 rfl 1 rfl ?_
  refine z_get (v := .ref (a_p1 4)) X k_X10_copyFrom_21 5 rfl rfl dX10_copyFrom_54 ?_
  refine z_iconst (v := (0 : Int32)) X dX10_copyFrom_57 (by decide) ?_
  refine z_aload_n X dX10_copyFrom_58 rfl 0 rfl ?_
  refine z_get (v := .ref (a_t 4)) X k_X10_copyFrom_21 0 rfl rfl dX10_copyFrom_59 ?_
  refine z_iconst (v := (0 : Int32)) X dX10_copyFrom_62 (by decide) ?_
  refine z_bipush (v := (8 : Int32)) X dX10_copyFrom_63 (by decide) ?_
  obtain ⟨g81, g82, hF⟩ := gc_e hF
  obtain ⟨o9, eo9, hF⟩ := nx_e hF
  refine z_copyi (ws' := (w_X10_copyFrom cA h_t a_t o9 h_p1 a_p1 o_p1)) X k_X10_copyFrom_n28 9 4 rfl rfl g81 g82 (by rw [eo9]; rfl) (by rw [hR]; exact Nat.le_of_ble_eq_true rfl) (by rw [hR]; exact Nat.le_of_ble_eq_true rfl) dX10_copyFrom_65 ?_
  cases hF
  exact z_vret X hA hQ hr dX10_copyFrom_68 (Nat.le_refl _) (Nat.le_refl _)
abbrev w_X8_copyFrom (cA : Nat → ClassId) (h_t : Nat) (a_t : Nat → Nat) (o_t : Ob) (h_p1 : Nat) (a_p1 : Nat → Nat) (o_p1 : Ob) : va_W := [(h_t, .inr (8, [.int (o_t 0 0), .int (o_t 1 0), .int (o_t 2 0), .int (o_t 3 0), .ref (a_t 4), .ref (a_t 5), .ref (a_t 6)])), (a_t 4, .inl (cA 0, 8, .inl (o_t 4))), (a_t 5, .inl (cA 0, 8, .inl (o_t 5))), (a_t 6, .inl (cA 1, 8, .inr (.inr (.inl (fun j => (o_t 6 j).toUInt32))))), (h_p1, .inr (8, [.int (o_p1 0 0), .int (o_p1 1 0), .int (o_p1 2 0), .int (o_p1 3 0), .ref (a_p1 4), .ref (a_p1 5), .ref (a_p1 6)])), (a_p1 4, .inl (cA 0, 8, .inl (o_p1 4))), (a_p1 5, .inl (cA 0, 8, .inl (o_p1 5))), (a_p1 6, .inl (cA 1, 8, .inr (.inr (.inl (fun j => (o_p1 6 j).toUInt32)))))]
set_option maxRecDepth 20000 in
theorem h_X8_copyFrom_X8 : ∀ w ∈ wsX80, w ∈ wsX8_copyFrom := by decide +kernel
set_option maxRecDepth 20000 in
theorem k_X8_copyFrom_9 : ZF wsX8_copyFrom RX8 9 8 0 RX8 TX8 7 := ⟨rfl, by decide, h_X8_copyFrom_X8, by decide +kernel⟩
set_option maxRecDepth 20000 in
theorem k_X8_copyFrom_15 : ZF wsX8_copyFrom RX8 15 8 1 RX8 TX8 7 := ⟨rfl, by decide, h_X8_copyFrom_X8, by decide +kernel⟩
set_option maxRecDepth 20000 in
theorem k_X8_copyFrom_18 : ZF wsX8_copyFrom RX8 18 8 4 RX8 TX8 7 := ⟨rfl, by decide, h_X8_copyFrom_X8, by decide +kernel⟩
set_option maxRecDepth 20000 in
theorem k_X8_copyFrom_22 : ZF wsX8_copyFrom RX8 22 8 5 RX8 TX8 7 := ⟨rfl, by decide, h_X8_copyFrom_X8, by decide +kernel⟩
set_option maxRecDepth 20000 in
theorem k_X8_copyFrom_25 : ZF wsX8_copyFrom RX8 25 8 6 RX8 TX8 7 := ⟨rfl, by decide, h_X8_copyFrom_X8, by decide +kernel⟩
set_option maxRecDepth 20000 in
theorem k_X8_copyFrom_29 : ZF wsX8_copyFrom RX8 29 8 2 RX8 TX8 7 := ⟨rfl, by decide, h_X8_copyFrom_X8, by decide +kernel⟩
set_option maxRecDepth 20000 in
theorem k_X8_copyFrom_32 : ZF wsX8_copyFrom RX8 32 8 3 RX8 TX8 7 := ⟨rfl, by decide, h_X8_copyFrom_X8, by decide +kernel⟩
set_option maxRecDepth 20000 in
theorem k_X8_copyFrom_n35 : ZN wsX8_copyFrom RX8 35 arraycopyName "java/lang/System" := ⟨by decide +kernel, by decide +kernel, by decide +kernel, by decide +kernel⟩
set_option maxHeartbeats 8000000 in
set_option maxRecDepth 100000 in
theorem c_X8_copyFrom (l : Launch) (D : va_G) (cA : Nat → ClassId) (g : Nat → Nat) (sz : Nat) (h_t : Nat) (a_t : Nat → Nat) (o_t : Ob) (h_p1 : Nat) (a_p1 : Nat → Nat) (o_p1 : Ob)  (o_t' : Ob) (hF : f_X8_copyFrom o_t o_p1 = some o_t') : Met l yX8_copyFrom wsX8_copyFrom ({ frames := 1, cells := 0, slots := 0, locals := 48 }) (va_Pc [.ref h_t, .ref h_p1] (PreW D cA g sz (w_X8_copyFrom cA h_t a_t o_t h_p1 a_p1 o_p1))) (va_Qv (fun (_ : Unit) => True) (PostW D cA sz (w_X8_copyFrom cA h_t a_t o_t h_p1 a_p1 o_p1) (w_X8_copyFrom cA h_t a_t o_t' h_p1 a_p1 o_p1)) (va_A (w_X8_copyFrom cA h_t a_t o_t h_p1 a_p1 o_p1) sz)) 0 0 (va_A (w_X8_copyFrom cA h_t a_t o_t h_p1 a_p1 o_p1) sz) := by
  refine z_start (cc := cX8_copyFrom) (maxL := 2) (ret := none) (lv0 := [(0, .ref h_t), (1, .ref h_p1)]) (Qc := fun sz => va_Qv (fun (_ : Unit) => True) (PostW D cA sz (w_X8_copyFrom cA h_t a_t o_t h_p1 a_p1 o_p1) (w_X8_copyFrom cA h_t a_t o_t' h_p1 a_p1 o_p1)) (va_A (w_X8_copyFrom cA h_t a_t o_t h_p1 a_p1 o_p1) sz)) (free := fun sz => va_A (w_X8_copyFrom cA h_t a_t o_t h_p1 a_p1 o_p1) sz) (by decide +kernel) rfl rfl (Nat.le_of_ble_eq_true rfl) ?_
  intro p e R s m args below meth c A Q hR hA hQ X hr hin
  unfold f_X8_copyFrom at hF
  refine z_aload_n X dX8_copyFrom_0 rfl 0 rfl ?_
  refine z_aload_n X dX8_copyFrom_1 rfl 1 rfl ?_
  refine z_get (v := .int (o_p1 0 0)) X k_X8_copyFrom_9 4 rfl rfl dX8_copyFrom_2 ?_
  obtain ⟨o1, eo1, hF⟩ := nx_e hF
  refine z_put (ws' := (w_X8_copyFrom cA h_t a_t o1 h_p1 a_p1 o_p1)) X k_X8_copyFrom_9 tyX8 tyX8_ok nmX8 rfl rfl 0 rfl (Nat.le_of_ble_eq_true rfl) (by rw [eo1]; rfl) dX8_copyFrom_5 ?_
  refine z_aload_n X dX8_copyFrom_8 rfl 0 rfl ?_
  refine z_aload_n X dX8_copyFrom_9 rfl 1 rfl ?_
  refine z_get (v := .int (o_p1 1 0)) X k_X8_copyFrom_15 4 rfl rfl dX8_copyFrom_10 ?_
  obtain ⟨o2, eo2, hF⟩ := nx_e hF
  refine z_put (ws' := (w_X8_copyFrom cA h_t a_t o2 h_p1 a_p1 o_p1)) X k_X8_copyFrom_15 tyX8 tyX8_ok nmX8 rfl rfl 0 rfl (Nat.le_of_ble_eq_true rfl) (by rw [eo2]; rfl) dX8_copyFrom_13 ?_
  refine z_aload_n X dX8_copyFrom_16 rfl 0 rfl ?_
  refine z_aload_n X dX8_copyFrom_17 rfl 1 rfl ?_
  refine z_get (v := .int (o_p1 2 0)) X k_X8_copyFrom_29 4 rfl rfl dX8_copyFrom_18 ?_
  obtain ⟨o3, eo3, hF⟩ := nx_e hF
  refine z_put (ws' := (w_X8_copyFrom cA h_t a_t o3 h_p1 a_p1 o_p1)) X k_X8_copyFrom_29 tyX8 tyX8_ok nmX8 rfl rfl 0 rfl (Nat.le_of_ble_eq_true rfl) (by rw [eo3]; rfl) dX8_copyFrom_21 ?_
  refine z_aload_n X dX8_copyFrom_24 rfl 0 rfl ?_
  refine z_aload_n X dX8_copyFrom_25 rfl 1 rfl ?_
  refine z_get (v := .int (o_p1 3 0)) X k_X8_copyFrom_32 4 rfl rfl dX8_copyFrom_26 ?_
  obtain ⟨o4, eo4, hF⟩ := nx_e hF
  refine z_put (ws' := (w_X8_copyFrom cA h_t a_t o4 h_p1 a_p1 o_p1)) X k_X8_copyFrom_32 tyX8 tyX8_ok nmX8 rfl rfl 0 rfl (Nat.le_of_ble_eq_true rfl) (by rw [eo4]; rfl) dX8_copyFrom_29 ?_
  refine z_aload_n X dX8_copyFrom_32 rfl 1 rfl ?_
  refine z_get (v := .ref (a_p1 4)) X k_X8_copyFrom_18 4 rfl rfl dX8_copyFrom_33 ?_
  refine z_iconst (v := (0 : Int32)) X dX8_copyFrom_36 (by decide) ?_
  refine z_aload_n X dX8_copyFrom_37 rfl 0 rfl ?_
  refine z_get (v := .ref (a_t 4)) X k_X8_copyFrom_18 0 rfl rfl dX8_copyFrom_38 ?_
  refine z_iconst (v := (0 : Int32)) X dX8_copyFrom_41 (by decide) ?_
  refine z_bipush (v := (8 : Int32)) X dX8_copyFrom_42 (by decide) ?_
  obtain ⟨g51, g52, hF⟩ := gc_e hF
  obtain ⟨o6, eo6, hF⟩ := nx_e hF
  refine z_copyi (ws' := (w_X8_copyFrom cA h_t a_t o6 h_p1 a_p1 o_p1)) X k_X8_copyFrom_n35 5 1 rfl rfl g51 g52 (by rw [eo6]; rfl) (by rw [hR]; exact Nat.le_of_ble_eq_true rfl) (by rw [hR]; exact Nat.le_of_ble_eq_true rfl) dX8_copyFrom_44 ?_
  refine z_aload_n X dX8_copyFrom_47 rfl 1 rfl ?_
  refine z_get (v := .ref (a_p1 5)) X k_X8_copyFrom_22 4 rfl rfl dX8_copyFrom_48 ?_
  refine z_iconst (v := (0 : Int32)) X dX8_copyFrom_51 (by decide) ?_
  refine z_aload_n X dX8_copyFrom_52 rfl 0 rfl ?_
  refine z_get (v := .ref (a_t 5)) X k_X8_copyFrom_22 0 rfl rfl dX8_copyFrom_53 ?_
  refine z_iconst (v := (0 : Int32)) X dX8_copyFrom_56 (by decide) ?_
  refine z_bipush (v := (8 : Int32)) X dX8_copyFrom_57 (by decide) ?_
  obtain ⟨g71, g72, hF⟩ := gc_e hF
  obtain ⟨o8, eo8, hF⟩ := nx_e hF
  refine z_copyi (ws' := (w_X8_copyFrom cA h_t a_t o8 h_p1 a_p1 o_p1)) X k_X8_copyFrom_n35 6 2 rfl rfl g71 g72 (by rw [eo8]; rfl) (by rw [hR]; exact Nat.le_of_ble_eq_true rfl) (by rw [hR]; exact Nat.le_of_ble_eq_true rfl) dX8_copyFrom_59 ?_
  refine z_aload_n X dX8_copyFrom_62 rfl 1 rfl ?_
  refine z_get (v := .ref (a_p1 6)) X k_X8_copyFrom_25 4 rfl rfl dX8_copyFrom_63 ?_
  refine z_iconst (v := (0 : Int32)) X dX8_copyFrom_66 (by decide) ?_
  refine z_aload_n X dX8_copyFrom_67 rfl 0 rfl ?_
  refine z_get (v := .ref (a_t 6)) X k_X8_copyFrom_25 0 rfl rfl dX8_copyFrom_68 ?_
  refine z_iconst (v := (0 : Int32)) X dX8_copyFrom_71 (by decide) ?_
  refine z_bipush (v := (8 : Int32)) X dX8_copyFrom_72 (by decide) ?_
  obtain ⟨g91, g92, hF⟩ := gc_e hF
  obtain ⟨o10, eo10, hF⟩ := nx_e hF
  refine z_copyf (ws' := (w_X8_copyFrom cA h_t a_t o10 h_p1 a_p1 o_p1)) X k_X8_copyFrom_n35 7 3 rfl rfl g91 g92 (by rw [eo10]; rfl) (by rw [hR]; exact Nat.le_of_ble_eq_true rfl) (by rw [hR]; exact Nat.le_of_ble_eq_true rfl) dX8_copyFrom_74 ?_
  cases hF
  exact z_vret X hA hQ hr dX8_copyFrom_77 (Nat.le_refl _) (Nat.le_refl _)
abbrev w_X4_copyFrom (cA : Nat → ClassId) (h_t : Nat) (a_t : Nat → Nat) (o_t : Ob) (h_p1 : Nat) (a_p1 : Nat → Nat) (o_p1 : Ob) : va_W := [(h_t, .inr (4, [.int (o_t 0 0), .ref (a_t 1), .ref (a_t 2), .ref (a_t 3), .ref (a_t 4)])), (a_t 1, .inl (cA 0, 40, .inl (o_t 1))), (a_t 2, .inl (cA 0, 40, .inl (o_t 2))), (a_t 3, .inl (cA 0, 40, .inl (o_t 3))), (a_t 4, .inl (cA 0, 320, .inl (o_t 4))), (h_p1, .inr (4, [.int (o_p1 0 0), .ref (a_p1 1), .ref (a_p1 2), .ref (a_p1 3), .ref (a_p1 4)])), (a_p1 1, .inl (cA 0, 40, .inl (o_p1 1))), (a_p1 2, .inl (cA 0, 40, .inl (o_p1 2))), (a_p1 3, .inl (cA 0, 40, .inl (o_p1 3))), (a_p1 4, .inl (cA 0, 320, .inl (o_p1 4)))]
set_option maxRecDepth 20000 in
theorem h_X4_copyFrom_X4 : ∀ w ∈ wsX40, w ∈ wsX4_copyFrom := by decide +kernel
set_option maxRecDepth 20000 in
theorem k_X4_copyFrom_9 : ZF wsX4_copyFrom RX4 9 4 1 RX4 TX4 5 := ⟨rfl, by decide, h_X4_copyFrom_X4, by decide +kernel⟩
set_option maxRecDepth 20000 in
theorem k_X4_copyFrom_15 : ZF wsX4_copyFrom RX4 15 4 2 RX4 TX4 5 := ⟨rfl, by decide, h_X4_copyFrom_X4, by decide +kernel⟩
set_option maxRecDepth 20000 in
theorem k_X4_copyFrom_18 : ZF wsX4_copyFrom RX4 18 4 3 RX4 TX4 5 := ⟨rfl, by decide, h_X4_copyFrom_X4, by decide +kernel⟩
set_option maxRecDepth 20000 in
theorem k_X4_copyFrom_21 : ZF wsX4_copyFrom RX4 21 4 4 RX4 TX4 5 := ⟨rfl, by decide, h_X4_copyFrom_X4, by decide +kernel⟩
set_option maxRecDepth 20000 in
theorem k_X4_copyFrom_24 : ZF wsX4_copyFrom RX4 24 4 0 RX4 TX4 5 := ⟨rfl, by decide, h_X4_copyFrom_X4, by decide +kernel⟩
set_option maxRecDepth 20000 in
theorem k_X4_copyFrom_n37 : ZN wsX4_copyFrom RX4 37 arraycopyName "java/lang/System" := ⟨by decide +kernel, by decide +kernel, by decide +kernel, by decide +kernel⟩
set_option maxHeartbeats 8000000 in
set_option maxRecDepth 100000 in
theorem c_X4_copyFrom (l : Launch) (D : va_G) (cA : Nat → ClassId) (g : Nat → Nat) (sz : Nat) (h_t : Nat) (a_t : Nat → Nat) (o_t : Ob) (h_p1 : Nat) (a_p1 : Nat → Nat) (o_p1 : Ob)  (o_t' : Ob) (hF : f_X4_copyFrom o_t o_p1 = some o_t') : Met l yX4_copyFrom wsX4_copyFrom ({ frames := 1, cells := 0, slots := 0, locals := 48 }) (va_Pc [.ref h_t, .ref h_p1] (PreW D cA g sz (w_X4_copyFrom cA h_t a_t o_t h_p1 a_p1 o_p1))) (va_Qv (fun (_ : Unit) => True) (PostW D cA sz (w_X4_copyFrom cA h_t a_t o_t h_p1 a_p1 o_p1) (w_X4_copyFrom cA h_t a_t o_t' h_p1 a_p1 o_p1)) (va_A (w_X4_copyFrom cA h_t a_t o_t h_p1 a_p1 o_p1) sz)) 0 0 (va_A (w_X4_copyFrom cA h_t a_t o_t h_p1 a_p1 o_p1) sz) := by
  refine z_start (cc := cX4_copyFrom) (maxL := 2) (ret := none) (lv0 := [(0, .ref h_t), (1, .ref h_p1)]) (Qc := fun sz => va_Qv (fun (_ : Unit) => True) (PostW D cA sz (w_X4_copyFrom cA h_t a_t o_t h_p1 a_p1 o_p1) (w_X4_copyFrom cA h_t a_t o_t' h_p1 a_p1 o_p1)) (va_A (w_X4_copyFrom cA h_t a_t o_t h_p1 a_p1 o_p1) sz)) (free := fun sz => va_A (w_X4_copyFrom cA h_t a_t o_t h_p1 a_p1 o_p1) sz) (by decide +kernel) rfl rfl (Nat.le_of_ble_eq_true rfl) ?_
  intro p e R s m args below meth c A Q hR hA hQ X hr hin
  unfold f_X4_copyFrom at hF
  refine z_aload_n X dX4_copyFrom_0 rfl 0 rfl ?_
  refine z_aload_n X dX4_copyFrom_1 rfl 1 rfl ?_
  refine z_get (v := .int (o_p1 0 0)) X k_X4_copyFrom_24 5 rfl rfl dX4_copyFrom_2 ?_
  obtain ⟨o1, eo1, hF⟩ := nx_e hF
  refine z_put (ws' := (w_X4_copyFrom cA h_t a_t o1 h_p1 a_p1 o_p1)) X k_X4_copyFrom_24 tyX4 tyX4_ok nmX4 rfl rfl 0 rfl (Nat.le_of_ble_eq_true rfl) (by rw [eo1]; rfl) dX4_copyFrom_5 ?_
  refine z_aload_n X dX4_copyFrom_8 rfl 1 rfl ?_
  refine z_get (v := .ref (a_p1 1)) X k_X4_copyFrom_9 5 rfl rfl dX4_copyFrom_9 ?_
  refine z_iconst (v := (0 : Int32)) X dX4_copyFrom_12 (by decide) ?_
  refine z_aload_n X dX4_copyFrom_13 rfl 0 rfl ?_
  refine z_get (v := .ref (a_t 1)) X k_X4_copyFrom_9 0 rfl rfl dX4_copyFrom_14 ?_
  refine z_iconst (v := (0 : Int32)) X dX4_copyFrom_17 (by decide) ?_
  refine z_aload_n X dX4_copyFrom_18 rfl 0 rfl ?_
  refine z_get (v := .int (o1 0 0)) X k_X4_copyFrom_24 0 rfl rfl dX4_copyFrom_19 ?_
  obtain ⟨g21, g22, hF⟩ := gc_e hF
  obtain ⟨o3, eo3, hF⟩ := nx_e hF
  refine z_copyi (ws' := (w_X4_copyFrom cA h_t a_t o3 h_p1 a_p1 o_p1)) X k_X4_copyFrom_n37 6 1 rfl rfl g21 g22 (by rw [eo3]; rfl) (by rw [hR]; exact Nat.le_of_ble_eq_true rfl) (by rw [hR]; exact Nat.le_of_ble_eq_true rfl) dX4_copyFrom_22 ?_
  refine z_aload_n X dX4_copyFrom_25 rfl 1 rfl ?_
  refine z_get (v := .ref (a_p1 2)) X k_X4_copyFrom_15 5 rfl rfl dX4_copyFrom_26 ?_
  refine z_iconst (v := (0 : Int32)) X dX4_copyFrom_29 (by decide) ?_
  refine z_aload_n X dX4_copyFrom_30 rfl 0 rfl ?_
  refine z_get (v := .ref (a_t 2)) X k_X4_copyFrom_15 0 rfl rfl dX4_copyFrom_31 ?_
  refine z_iconst (v := (0 : Int32)) X dX4_copyFrom_34 (by decide) ?_
  refine z_aload_n X dX4_copyFrom_35 rfl 0 rfl ?_
  refine z_get (v := .int (o3 0 0)) X k_X4_copyFrom_24 0 rfl rfl dX4_copyFrom_36 ?_
  obtain ⟨g41, g42, hF⟩ := gc_e hF
  obtain ⟨o5, eo5, hF⟩ := nx_e hF
  refine z_copyi (ws' := (w_X4_copyFrom cA h_t a_t o5 h_p1 a_p1 o_p1)) X k_X4_copyFrom_n37 7 2 rfl rfl g41 g42 (by rw [eo5]; rfl) (by rw [hR]; exact Nat.le_of_ble_eq_true rfl) (by rw [hR]; exact Nat.le_of_ble_eq_true rfl) dX4_copyFrom_39 ?_
  refine z_aload_n X dX4_copyFrom_42 rfl 1 rfl ?_
  refine z_get (v := .ref (a_p1 3)) X k_X4_copyFrom_18 5 rfl rfl dX4_copyFrom_43 ?_
  refine z_iconst (v := (0 : Int32)) X dX4_copyFrom_46 (by decide) ?_
  refine z_aload_n X dX4_copyFrom_47 rfl 0 rfl ?_
  refine z_get (v := .ref (a_t 3)) X k_X4_copyFrom_18 0 rfl rfl dX4_copyFrom_48 ?_
  refine z_iconst (v := (0 : Int32)) X dX4_copyFrom_51 (by decide) ?_
  refine z_aload_n X dX4_copyFrom_52 rfl 0 rfl ?_
  refine z_get (v := .int (o5 0 0)) X k_X4_copyFrom_24 0 rfl rfl dX4_copyFrom_53 ?_
  obtain ⟨g61, g62, hF⟩ := gc_e hF
  obtain ⟨o7, eo7, hF⟩ := nx_e hF
  refine z_copyi (ws' := (w_X4_copyFrom cA h_t a_t o7 h_p1 a_p1 o_p1)) X k_X4_copyFrom_n37 8 3 rfl rfl g61 g62 (by rw [eo7]; rfl) (by rw [hR]; exact Nat.le_of_ble_eq_true rfl) (by rw [hR]; exact Nat.le_of_ble_eq_true rfl) dX4_copyFrom_56 ?_
  refine z_aload_n X dX4_copyFrom_59 rfl 1 rfl ?_
  refine z_get (v := .ref (a_p1 4)) X k_X4_copyFrom_21 5 rfl rfl dX4_copyFrom_60 ?_
  refine z_iconst (v := (0 : Int32)) X dX4_copyFrom_63 (by decide) ?_
  refine z_aload_n X dX4_copyFrom_64 rfl 0 rfl ?_
  refine z_get (v := .ref (a_t 4)) X k_X4_copyFrom_21 0 rfl rfl dX4_copyFrom_65 ?_
  refine z_iconst (v := (0 : Int32)) X dX4_copyFrom_68 (by decide) ?_
  refine z_aload_n X dX4_copyFrom_69 rfl 0 rfl ?_
  refine z_get (v := .int (o7 0 0)) X k_X4_copyFrom_24 0 rfl rfl dX4_copyFrom_70 ?_
  refine z_bipush (v := (8 : Int32)) X dX4_copyFrom_73 (by decide) ?_
  refine z_imul X dX4_copyFrom_75 ?_
  obtain ⟨g81, g82, hF⟩ := gc_e hF
  obtain ⟨o9, eo9, hF⟩ := nx_e hF
  refine z_copyi (ws' := (w_X4_copyFrom cA h_t a_t o9 h_p1 a_p1 o_p1)) X k_X4_copyFrom_n37 9 4 rfl rfl g81 g82 (by rw [eo9]; rfl) (by rw [hR]; exact Nat.le_of_ble_eq_true rfl) (by rw [hR]; exact Nat.le_of_ble_eq_true rfl) dX4_copyFrom_76 ?_
  cases hF
  exact z_vret X hA hQ hr dX4_copyFrom_79 (Nat.le_refl _) (Nat.le_refl _)
abbrev w_X9_copyFrom (cA : Nat → ClassId) (h_t : Nat) (a_t : Nat → Nat) (o_t : Ob) (a_t_wares : Nat → Nat) (o_t_wares : Ob) (a_t_shelf : Nat → Nat) (o_t_shelf : Ob) (a_t_log : Nat → Nat) (o_t_log : Ob) (a_t_b0 : Nat → Nat) (o_t_b0 : Ob) (a_t_b1 : Nat → Nat) (o_t_b1 : Ob) (a_t_b2 : Nat → Nat) (o_t_b2 : Ob) (h_p1 : Nat) (a_p1 : Nat → Nat) (o_p1 : Ob) (a_p1_wares : Nat → Nat) (o_p1_wares : Ob) (a_p1_shelf : Nat → Nat) (o_p1_shelf : Ob) (a_p1_log : Nat → Nat) (o_p1_log : Ob) (a_p1_b0 : Nat → Nat) (o_p1_b0 : Ob) (a_p1_b1 : Nat → Nat) (o_p1_b1 : Ob) (a_p1_b2 : Nat → Nat) (o_p1_b2 : Ob) : va_W := [(h_t, .inr (9, [.ref (a_t 0), .ref (a_t 1), .ref (a_t 2), .ref (a_t 3), .int (o_t 4 0), .int (o_t 5 0), .int (o_t 6 0)])), (a_t 3, .inl (cA 4, 3, .inr (.inr (.inr (.inr (bk (a_t 20) (a_t 21) (a_t 22))))))), ((a_t 0), .inr (10, [.int (o_t_wares 0 0), .ref (a_t_wares 1), .ref (a_t_wares 2), .ref (a_t_wares 3), .ref (a_t_wares 4)])), (a_t_wares 1, .inl (cA 0, 8, .inl (o_t_wares 1))), (a_t_wares 2, .inl (cA 0, 8, .inl (o_t_wares 2))), (a_t_wares 3, .inl (cA 0, 8, .inl (o_t_wares 3))), (a_t_wares 4, .inl (cA 0, 8, .inl (o_t_wares 4))), ((a_t 1), .inr (8, [.int (o_t_shelf 0 0), .int (o_t_shelf 1 0), .int (o_t_shelf 2 0), .int (o_t_shelf 3 0), .ref (a_t_shelf 4), .ref (a_t_shelf 5), .ref (a_t_shelf 6)])), (a_t_shelf 4, .inl (cA 0, 8, .inl (o_t_shelf 4))), (a_t_shelf 5, .inl (cA 0, 8, .inl (o_t_shelf 5))), (a_t_shelf 6, .inl (cA 1, 8, .inr (.inr (.inl (fun j => (o_t_shelf 6 j).toUInt32))))), ((a_t 2), .inr (4, [.int (o_t_log 0 0), .ref (a_t_log 1), .ref (a_t_log 2), .ref (a_t_log 3), .ref (a_t_log 4)])), (a_t_log 1, .inl (cA 0, 40, .inl (o_t_log 1))), (a_t_log 2, .inl (cA 0, 40, .inl (o_t_log 2))), (a_t_log 3, .inl (cA 0, 40, .inl (o_t_log 3))), (a_t_log 4, .inl (cA 0, 320, .inl (o_t_log 4))), ((a_t 20), .inr (0, [.int (o_t_b0 0 0), .int (o_t_b0 1 0), .int (o_t_b0 2 0), .int (o_t_b0 3 0), .int (o_t_b0 4 0), .int (o_t_b0 5 0), .int (o_t_b0 6 0), .ref (a_t_b0 7), .ref (a_t_b0 8), .ref (a_t_b0 9)])), (a_t_b0 7, .inl (cA 0, 30, .inl (o_t_b0 7))), (a_t_b0 8, .inl (cA 0, 30, .inl (o_t_b0 8))), (a_t_b0 9, .inl (cA 0, 30, .inl (o_t_b0 9))), ((a_t 21), .inr (0, [.int (o_t_b1 0 0), .int (o_t_b1 1 0), .int (o_t_b1 2 0), .int (o_t_b1 3 0), .int (o_t_b1 4 0), .int (o_t_b1 5 0), .int (o_t_b1 6 0), .ref (a_t_b1 7), .ref (a_t_b1 8), .ref (a_t_b1 9)])), (a_t_b1 7, .inl (cA 0, 30, .inl (o_t_b1 7))), (a_t_b1 8, .inl (cA 0, 30, .inl (o_t_b1 8))), (a_t_b1 9, .inl (cA 0, 30, .inl (o_t_b1 9))), ((a_t 22), .inr (0, [.int (o_t_b2 0 0), .int (o_t_b2 1 0), .int (o_t_b2 2 0), .int (o_t_b2 3 0), .int (o_t_b2 4 0), .int (o_t_b2 5 0), .int (o_t_b2 6 0), .ref (a_t_b2 7), .ref (a_t_b2 8), .ref (a_t_b2 9)])), (a_t_b2 7, .inl (cA 0, 30, .inl (o_t_b2 7))), (a_t_b2 8, .inl (cA 0, 30, .inl (o_t_b2 8))), (a_t_b2 9, .inl (cA 0, 30, .inl (o_t_b2 9))), (h_p1, .inr (9, [.ref (a_p1 0), .ref (a_p1 1), .ref (a_p1 2), .ref (a_p1 3), .int (o_p1 4 0), .int (o_p1 5 0), .int (o_p1 6 0)])), (a_p1 3, .inl (cA 4, 3, .inr (.inr (.inr (.inr (bk (a_p1 20) (a_p1 21) (a_p1 22))))))), ((a_p1 0), .inr (10, [.int (o_p1_wares 0 0), .ref (a_p1_wares 1), .ref (a_p1_wares 2), .ref (a_p1_wares 3), .ref (a_p1_wares 4)])), (a_p1_wares 1, .inl (cA 0, 8, .inl (o_p1_wares 1))), (a_p1_wares 2, .inl (cA 0, 8, .inl (o_p1_wares 2))), (a_p1_wares 3, .inl (cA 0, 8, .inl (o_p1_wares 3))), (a_p1_wares 4, .inl (cA 0, 8, .inl (o_p1_wares 4))), ((a_p1 1), .inr (8, [.int (o_p1_shelf 0 0), .int (o_p1_shelf 1 0), .int (o_p1_shelf 2 0), .int (o_p1_shelf 3 0), .ref (a_p1_shelf 4), .ref (a_p1_shelf 5), .ref (a_p1_shelf 6)])), (a_p1_shelf 4, .inl (cA 0, 8, .inl (o_p1_shelf 4))), (a_p1_shelf 5, .inl (cA 0, 8, .inl (o_p1_shelf 5))), (a_p1_shelf 6, .inl (cA 1, 8, .inr (.inr (.inl (fun j => (o_p1_shelf 6 j).toUInt32))))), ((a_p1 2), .inr (4, [.int (o_p1_log 0 0), .ref (a_p1_log 1), .ref (a_p1_log 2), .ref (a_p1_log 3), .ref (a_p1_log 4)])), (a_p1_log 1, .inl (cA 0, 40, .inl (o_p1_log 1))), (a_p1_log 2, .inl (cA 0, 40, .inl (o_p1_log 2))), (a_p1_log 3, .inl (cA 0, 40, .inl (o_p1_log 3))), (a_p1_log 4, .inl (cA 0, 320, .inl (o_p1_log 4))), ((a_p1 20), .inr (0, [.int (o_p1_b0 0 0), .int (o_p1_b0 1 0), .int (o_p1_b0 2 0), .int (o_p1_b0 3 0), .int (o_p1_b0 4 0), .int (o_p1_b0 5 0), .int (o_p1_b0 6 0), .ref (a_p1_b0 7), .ref (a_p1_b0 8), .ref (a_p1_b0 9)])), (a_p1_b0 7, .inl (cA 0, 30, .inl (o_p1_b0 7))), (a_p1_b0 8, .inl (cA 0, 30, .inl (o_p1_b0 8))), (a_p1_b0 9, .inl (cA 0, 30, .inl (o_p1_b0 9))), ((a_p1 21), .inr (0, [.int (o_p1_b1 0 0), .int (o_p1_b1 1 0), .int (o_p1_b1 2 0), .int (o_p1_b1 3 0), .int (o_p1_b1 4 0), .int (o_p1_b1 5 0), .int (o_p1_b1 6 0), .ref (a_p1_b1 7), .ref (a_p1_b1 8), .ref (a_p1_b1 9)])), (a_p1_b1 7, .inl (cA 0, 30, .inl (o_p1_b1 7))), (a_p1_b1 8, .inl (cA 0, 30, .inl (o_p1_b1 8))), (a_p1_b1 9, .inl (cA 0, 30, .inl (o_p1_b1 9))), ((a_p1 22), .inr (0, [.int (o_p1_b2 0 0), .int (o_p1_b2 1 0), .int (o_p1_b2 2 0), .int (o_p1_b2 3 0), .int (o_p1_b2 4 0), .int (o_p1_b2 5 0), .int (o_p1_b2 6 0), .ref (a_p1_b2 7), .ref (a_p1_b2 8), .ref (a_p1_b2 9)])), (a_p1_b2 7, .inl (cA 0, 30, .inl (o_p1_b2 7))), (a_p1_b2 8, .inl (cA 0, 30, .inl (o_p1_b2 8))), (a_p1_b2 9, .inl (cA 0, 30, .inl (o_p1_b2 9)))]
set_option maxRecDepth 20000 in
theorem h_X9_copyFrom_X9 : ∀ w ∈ wsX90, w ∈ wsX9_copyFrom := by decide +kernel
set_option maxRecDepth 20000 in
theorem k_X9_copyFrom_12 : ZF wsX9_copyFrom RX9 12 9 0 RX9 TX9 7 := ⟨rfl, by decide, h_X9_copyFrom_X9, by decide +kernel⟩
set_option maxRecDepth 20000 in
theorem k_X9_copyFrom_21 : ZF wsX9_copyFrom RX9 21 9 1 RX9 TX9 7 := ⟨rfl, by decide, h_X9_copyFrom_X9, by decide +kernel⟩
set_option maxRecDepth 20000 in
theorem k_X9_copyFrom_28 : ZF wsX9_copyFrom RX9 28 9 2 RX9 TX9 7 := ⟨rfl, by decide, h_X9_copyFrom_X9, by decide +kernel⟩
set_option maxRecDepth 20000 in
theorem k_X9_copyFrom_34 : ZF wsX9_copyFrom RX9 34 9 3 RX9 TX9 7 := ⟨rfl, by decide, h_X9_copyFrom_X9, by decide +kernel⟩
set_option maxRecDepth 20000 in
theorem k_X9_copyFrom_51 : ZF wsX9_copyFrom RX9 51 9 4 RX9 TX9 7 := ⟨rfl, by decide, h_X9_copyFrom_X9, by decide +kernel⟩
set_option maxRecDepth 20000 in
theorem k_X9_copyFrom_54 : ZF wsX9_copyFrom RX9 54 9 5 RX9 TX9 7 := ⟨rfl, by decide, h_X9_copyFrom_X9, by decide +kernel⟩
set_option maxRecDepth 20000 in
theorem k_X9_copyFrom_57 : ZF wsX9_copyFrom RX9 57 9 6 RX9 TX9 7 := ⟨rfl, by decide, h_X9_copyFrom_X9, by decide +kernel⟩
set_option maxHeartbeats 8000000 in
set_option maxRecDepth 100000 in
theorem c_X9_copyFrom (l : Launch) (D : va_G) (cA : Nat → ClassId) (g : Nat → Nat) (sz : Nat) (h_t : Nat) (a_t : Nat → Nat) (o_t : Ob) (a_t_wares : Nat → Nat) (o_t_wares : Ob) (a_t_shelf : Nat → Nat) (o_t_shelf : Ob) (a_t_log : Nat → Nat) (o_t_log : Ob) (a_t_b0 : Nat → Nat) (o_t_b0 : Ob) (a_t_b1 : Nat → Nat) (o_t_b1 : Ob) (a_t_b2 : Nat → Nat) (o_t_b2 : Ob) (h_p1 : Nat) (a_p1 : Nat → Nat) (o_p1 : Ob) (a_p1_wares : Nat → Nat) (o_p1_wares : Ob) (a_p1_shelf : Nat → Nat) (o_p1_shelf : Ob) (a_p1_log : Nat → Nat) (o_p1_log : Ob) (a_p1_b0 : Nat → Nat) (o_p1_b0 : Ob) (a_p1_b1 : Nat → Nat) (o_p1_b1 : Ob) (a_p1_b2 : Nat → Nat) (o_p1_b2 : Ob)  (o_t' : Ob) (o_t_wares' : Ob) (o_t_shelf' : Ob) (o_t_log' : Ob) (o_t_b0' : Ob) (o_t_b1' : Ob) (o_t_b2' : Ob) (hF : f_X9_copyFrom o_t o_t_wares o_t_shelf o_t_log o_t_b0 o_t_b1 o_t_b2 o_p1 o_p1_wares o_p1_shelf o_p1_log o_p1_b0 o_p1_b1 o_p1_b2 = some (o_t', o_t_wares', o_t_shelf', o_t_log', o_t_b0', o_t_b1', o_t_b2')) : Met l yX9_copyFrom wsX9_copyFrom ({ frames := 2, cells := 0, slots := 0, locals := 69 }) (va_Pc [.ref h_t, .ref h_p1] (PreW D cA g sz (w_X9_copyFrom cA h_t a_t o_t a_t_wares o_t_wares a_t_shelf o_t_shelf a_t_log o_t_log a_t_b0 o_t_b0 a_t_b1 o_t_b1 a_t_b2 o_t_b2 h_p1 a_p1 o_p1 a_p1_wares o_p1_wares a_p1_shelf o_p1_shelf a_p1_log o_p1_log a_p1_b0 o_p1_b0 a_p1_b1 o_p1_b1 a_p1_b2 o_p1_b2))) (va_Qv (fun (_ : Unit) => True) (PostW D cA sz (w_X9_copyFrom cA h_t a_t o_t a_t_wares o_t_wares a_t_shelf o_t_shelf a_t_log o_t_log a_t_b0 o_t_b0 a_t_b1 o_t_b1 a_t_b2 o_t_b2 h_p1 a_p1 o_p1 a_p1_wares o_p1_wares a_p1_shelf o_p1_shelf a_p1_log o_p1_log a_p1_b0 o_p1_b0 a_p1_b1 o_p1_b1 a_p1_b2 o_p1_b2) (w_X9_copyFrom cA h_t a_t o_t' a_t_wares o_t_wares' a_t_shelf o_t_shelf' a_t_log o_t_log' a_t_b0 o_t_b0' a_t_b1 o_t_b1' a_t_b2 o_t_b2' h_p1 a_p1 o_p1 a_p1_wares o_p1_wares a_p1_shelf o_p1_shelf a_p1_log o_p1_log a_p1_b0 o_p1_b0 a_p1_b1 o_p1_b1 a_p1_b2 o_p1_b2)) (va_A (w_X9_copyFrom cA h_t a_t o_t a_t_wares o_t_wares a_t_shelf o_t_shelf a_t_log o_t_log a_t_b0 o_t_b0 a_t_b1 o_t_b1 a_t_b2 o_t_b2 h_p1 a_p1 o_p1 a_p1_wares o_p1_wares a_p1_shelf o_p1_shelf a_p1_log o_p1_log a_p1_b0 o_p1_b0 a_p1_b1 o_p1_b1 a_p1_b2 o_p1_b2) sz)) 0 0 (va_A (w_X9_copyFrom cA h_t a_t o_t a_t_wares o_t_wares a_t_shelf o_t_shelf a_t_log o_t_log a_t_b0 o_t_b0 a_t_b1 o_t_b1 a_t_b2 o_t_b2 h_p1 a_p1 o_p1 a_p1_wares o_p1_wares a_p1_shelf o_p1_shelf a_p1_log o_p1_log a_p1_b0 o_p1_b0 a_p1_b1 o_p1_b1 a_p1_b2 o_p1_b2) sz) := by
  refine z_start (cc := cX9_copyFrom) (maxL := 3) (ret := none) (lv0 := [(0, .ref h_t), (1, .ref h_p1)]) (Qc := fun sz => va_Qv (fun (_ : Unit) => True) (PostW D cA sz (w_X9_copyFrom cA h_t a_t o_t a_t_wares o_t_wares a_t_shelf o_t_shelf a_t_log o_t_log a_t_b0 o_t_b0 a_t_b1 o_t_b1 a_t_b2 o_t_b2 h_p1 a_p1 o_p1 a_p1_wares o_p1_wares a_p1_shelf o_p1_shelf a_p1_log o_p1_log a_p1_b0 o_p1_b0 a_p1_b1 o_p1_b1 a_p1_b2 o_p1_b2) (w_X9_copyFrom cA h_t a_t o_t' a_t_wares o_t_wares' a_t_shelf o_t_shelf' a_t_log o_t_log' a_t_b0 o_t_b0' a_t_b1 o_t_b1' a_t_b2 o_t_b2' h_p1 a_p1 o_p1 a_p1_wares o_p1_wares a_p1_shelf o_p1_shelf a_p1_log o_p1_log a_p1_b0 o_p1_b0 a_p1_b1 o_p1_b1 a_p1_b2 o_p1_b2)) (va_A (w_X9_copyFrom cA h_t a_t o_t a_t_wares o_t_wares a_t_shelf o_t_shelf a_t_log o_t_log a_t_b0 o_t_b0 a_t_b1 o_t_b1 a_t_b2 o_t_b2 h_p1 a_p1 o_p1 a_p1_wares o_p1_wares a_p1_shelf o_p1_shelf a_p1_log o_p1_log a_p1_b0 o_p1_b0 a_p1_b1 o_p1_b1 a_p1_b2 o_p1_b2) sz)) (free := fun sz => va_A (w_X9_copyFrom cA h_t a_t o_t a_t_wares o_t_wares a_t_shelf o_t_shelf a_t_log o_t_log a_t_b0 o_t_b0 a_t_b1 o_t_b1 a_t_b2 o_t_b2 h_p1 a_p1 o_p1 a_p1_wares o_p1_wares a_p1_shelf o_p1_shelf a_p1_log o_p1_log a_p1_b0 o_p1_b0 a_p1_b1 o_p1_b1 a_p1_b2 o_p1_b2) sz) (by decide +kernel) rfl rfl (Nat.le_of_ble_eq_true rfl) ?_
  intro p e R s m args below meth c A Q hR hA hQ X hr hin
  unfold f_X9_copyFrom at hF
  refine z_aload_n X dX9_copyFrom_0 rfl 0 rfl ?_
  refine z_get (v := .ref (a_t 0)) X k_X9_copyFrom_12 0 rfl rfl dX9_copyFrom_1 ?_
  refine z_aload_n X dX9_copyFrom_4 rfl 1 rfl ?_
  refine z_get (v := .ref (a_p1 0)) X k_X9_copyFrom_12 28 rfl rfl dX9_copyFrom_5 ?_
  obtain ⟨o1, hc2, hF⟩ := zb1_e hF
  refine z_Vv (As := [.ref (a_p1 0)]) (rest := []) (wc := (w_X10_copyFrom cA (a_t 0) a_t_wares o_t_wares (a_p1 0) a_p1_wares o_p1_wares)) (wc' := (w_X10_copyFrom cA (a_t 0) a_t_wares o1 (a_p1 0) a_p1_wares o_p1_wares)) (ws' := (w_X9_copyFrom cA h_t a_t o_t a_t_wares o1 a_t_shelf o_t_shelf a_t_log o_t_log a_t_b0 o_t_b0 a_t_b1 o_t_b1 a_t_b2 o_t_b2 h_p1 a_p1 o_p1 a_p1_wares o_p1_wares a_p1_shelf o_p1_shelf a_p1_log o_p1_log a_p1_b0 o_p1_b0 a_p1_b1 o_p1_b1 a_p1_b2 o_p1_b2)) X (cwV 1 X.2.2.2.2.1 gX9_copyFrom_X10_copyFrom rfl rfl rfl (by decide +kernel) (by rw [hR]; exact ⟨Nat.le_of_ble_eq_true rfl, Nat.le_of_ble_eq_true rfl⟩)) (fun sz => c_X10_copyFrom l D cA g sz (a_t 0) a_t_wares o_t_wares (a_p1 0) a_p1_wares o_p1_wares o1 hc2) [2, 3, 4, 5, 6, 30, 31, 32, 33, 34] [0, 1, 1000, 1001, 1002, 1003, 1004, 7, 8, 9, 10, 11, 12, 13, 14, 15, 16, 17, 18, 19, 20, 21, 22, 23, 24, 25, 26, 27, 28, 29, 1005, 1006, 1007, 1008, 1009, 35, 36, 37, 38, 39, 40, 41, 42, 43, 44, 45, 46, 47, 48, 49, 50, 51, 52, 53, 54, 55] rfl (by decide) rfl (by decide) rfl rfl rfl rfl rfl rfl (Nat.le_of_ble_eq_true rfl) dX9_copyFrom_8 ⟨Nat.zero_le _, Nat.zero_le _⟩ ?_
  refine z_aload_n X dX9_copyFrom_11 rfl 0 rfl ?_
  refine z_get (v := .ref (a_t 1)) X k_X9_copyFrom_21 0 rfl rfl dX9_copyFrom_12 ?_
  refine z_aload_n X dX9_copyFrom_15 rfl 1 rfl ?_
  refine z_get (v := .ref (a_p1 1)) X k_X9_copyFrom_21 28 rfl rfl dX9_copyFrom_16 ?_
  obtain ⟨o3, hc4, hF⟩ := zb1_e hF
  refine z_Vv (As := [.ref (a_p1 1)]) (rest := []) (wc := (w_X8_copyFrom cA (a_t 1) a_t_shelf o_t_shelf (a_p1 1) a_p1_shelf o_p1_shelf)) (wc' := (w_X8_copyFrom cA (a_t 1) a_t_shelf o3 (a_p1 1) a_p1_shelf o_p1_shelf)) (ws' := (w_X9_copyFrom cA h_t a_t o_t a_t_wares o1 a_t_shelf o3 a_t_log o_t_log a_t_b0 o_t_b0 a_t_b1 o_t_b1 a_t_b2 o_t_b2 h_p1 a_p1 o_p1 a_p1_wares o_p1_wares a_p1_shelf o_p1_shelf a_p1_log o_p1_log a_p1_b0 o_p1_b0 a_p1_b1 o_p1_b1 a_p1_b2 o_p1_b2)) X (cwV 1 X.2.2.2.2.1 gX9_copyFrom_X8_copyFrom rfl rfl rfl (by decide +kernel) (by rw [hR]; exact ⟨Nat.le_of_ble_eq_true rfl, Nat.le_of_ble_eq_true rfl⟩)) (fun sz => c_X8_copyFrom l D cA g sz (a_t 1) a_t_shelf o_t_shelf (a_p1 1) a_p1_shelf o_p1_shelf o3 hc4) [7, 8, 9, 10, 35, 36, 37, 38] [0, 1, 2, 3, 4, 5, 6, 1000, 1001, 1002, 1003, 11, 12, 13, 14, 15, 16, 17, 18, 19, 20, 21, 22, 23, 24, 25, 26, 27, 28, 29, 30, 31, 32, 33, 34, 1004, 1005, 1006, 1007, 39, 40, 41, 42, 43, 44, 45, 46, 47, 48, 49, 50, 51, 52, 53, 54, 55] rfl (by decide) rfl (by decide) rfl rfl rfl rfl rfl rfl (Nat.le_of_ble_eq_true rfl) dX9_copyFrom_19 ⟨Nat.zero_le _, Nat.zero_le _⟩ ?_
  refine z_aload_n X dX9_copyFrom_22 rfl 0 rfl ?_
  refine z_get (v := .ref (a_t 2)) X k_X9_copyFrom_28 0 rfl rfl dX9_copyFrom_23 ?_
  refine z_aload_n X dX9_copyFrom_26 rfl 1 rfl ?_
  refine z_get (v := .ref (a_p1 2)) X k_X9_copyFrom_28 28 rfl rfl dX9_copyFrom_27 ?_
  obtain ⟨o5, hc6, hF⟩ := zb1_e hF
  refine z_Vv (As := [.ref (a_p1 2)]) (rest := []) (wc := (w_X4_copyFrom cA (a_t 2) a_t_log o_t_log (a_p1 2) a_p1_log o_p1_log)) (wc' := (w_X4_copyFrom cA (a_t 2) a_t_log o5 (a_p1 2) a_p1_log o_p1_log)) (ws' := (w_X9_copyFrom cA h_t a_t o_t a_t_wares o1 a_t_shelf o3 a_t_log o5 a_t_b0 o_t_b0 a_t_b1 o_t_b1 a_t_b2 o_t_b2 h_p1 a_p1 o_p1 a_p1_wares o_p1_wares a_p1_shelf o_p1_shelf a_p1_log o_p1_log a_p1_b0 o_p1_b0 a_p1_b1 o_p1_b1 a_p1_b2 o_p1_b2)) X (cwV 1 X.2.2.2.2.1 gX9_copyFrom_X4_copyFrom rfl rfl rfl (by decide +kernel) (by rw [hR]; exact ⟨Nat.le_of_ble_eq_true rfl, Nat.le_of_ble_eq_true rfl⟩)) (fun sz => c_X4_copyFrom l D cA g sz (a_t 2) a_t_log o_t_log (a_p1 2) a_p1_log o_p1_log o5 hc6) [11, 12, 13, 14, 15, 39, 40, 41, 42, 43] [0, 1, 2, 3, 4, 5, 6, 7, 8, 9, 10, 1000, 1001, 1002, 1003, 1004, 16, 17, 18, 19, 20, 21, 22, 23, 24, 25, 26, 27, 28, 29, 30, 31, 32, 33, 34, 35, 36, 37, 38, 1005, 1006, 1007, 1008, 1009, 44, 45, 46, 47, 48, 49, 50, 51, 52, 53, 54, 55] rfl (by decide) rfl (by decide) rfl rfl rfl rfl rfl rfl (Nat.le_of_ble_eq_true rfl) dX9_copyFrom_30 ⟨Nat.zero_le _, Nat.zero_le _⟩ ?_
  refine z_aload_n X dX9_copyFrom_33 rfl 0 rfl ?_
  refine z_aload_n X dX9_copyFrom_34 rfl 1 rfl ?_
  refine z_get (v := .int (o_p1 4 0)) X k_X9_copyFrom_51 28 rfl rfl dX9_copyFrom_35 ?_
  obtain ⟨o7, eo7, hF⟩ := nx_e hF
  refine z_put (ws' := (w_X9_copyFrom cA h_t a_t o7 a_t_wares o1 a_t_shelf o3 a_t_log o5 a_t_b0 o_t_b0 a_t_b1 o_t_b1 a_t_b2 o_t_b2 h_p1 a_p1 o_p1 a_p1_wares o_p1_wares a_p1_shelf o_p1_shelf a_p1_log o_p1_log a_p1_b0 o_p1_b0 a_p1_b1 o_p1_b1 a_p1_b2 o_p1_b2)) X k_X9_copyFrom_51 tyX9 tyX9_ok nmX9 rfl rfl 0 rfl (Nat.le_of_ble_eq_true rfl) (by rw [eo7]; rfl) dX9_copyFrom_38 ?_
  refine z_aload_n X dX9_copyFrom_41 rfl 0 rfl ?_
  refine z_aload_n X dX9_copyFrom_42 rfl 1 rfl ?_
  refine z_get (v := .int (o_p1 5 0)) X k_X9_copyFrom_54 28 rfl rfl dX9_copyFrom_43 ?_
  obtain ⟨o8, eo8, hF⟩ := nx_e hF
  refine z_put (ws' := (w_X9_copyFrom cA h_t a_t o8 a_t_wares o1 a_t_shelf o3 a_t_log o5 a_t_b0 o_t_b0 a_t_b1 o_t_b1 a_t_b2 o_t_b2 h_p1 a_p1 o_p1 a_p1_wares o_p1_wares a_p1_shelf o_p1_shelf a_p1_log o_p1_log a_p1_b0 o_p1_b0 a_p1_b1 o_p1_b1 a_p1_b2 o_p1_b2)) X k_X9_copyFrom_54 tyX9 tyX9_ok nmX9 rfl rfl 0 rfl (Nat.le_of_ble_eq_true rfl) (by rw [eo8]; rfl) dX9_copyFrom_46 ?_
  refine z_aload_n X dX9_copyFrom_49 rfl 0 rfl ?_
  refine z_aload_n X dX9_copyFrom_50 rfl 1 rfl ?_
  refine z_get (v := .int (o_p1 6 0)) X k_X9_copyFrom_57 28 rfl rfl dX9_copyFrom_51 ?_
  obtain ⟨o9, eo9, hF⟩ := nx_e hF
  refine z_put (ws' := (w_X9_copyFrom cA h_t a_t o9 a_t_wares o1 a_t_shelf o3 a_t_log o5 a_t_b0 o_t_b0 a_t_b1 o_t_b1 a_t_b2 o_t_b2 h_p1 a_p1 o_p1 a_p1_wares o_p1_wares a_p1_shelf o_p1_shelf a_p1_log o_p1_log a_p1_b0 o_p1_b0 a_p1_b1 o_p1_b1 a_p1_b2 o_p1_b2)) X k_X9_copyFrom_57 tyX9 tyX9_ok nmX9 rfl rfl 0 rfl (Nat.le_of_ble_eq_true rfl) (by rw [eo9]; rfl) dX9_copyFrom_54 ?_
  refine z_iconst (v := (0 : Int32)) X dX9_copyFrom_57 (by decide) ?_
  refine z_istore_n (lv' := [(2, .int (0 : Int32)), (0, .ref h_t), (1, .ref h_p1)]) X dX9_copyFrom_58 rfl (by decide) rfl ?_
  obtain ⟨o41, o42, o43, hL, hF⟩ := zb3_e hF
  have L44_x : ∀ (o41' : Ob) (o42' : Ob) (o43' : Ob), (o41', o42', o43') = (o41, o42, o43) → ZW p l e R s m args below meth c D A 3 0 0 Q (w_X9_copyFrom cA h_t a_t o9 a_t_wares o1 a_t_shelf o3 a_t_log o5 a_t_b0 o41' a_t_b1 o42' a_t_b2 o43' h_p1 a_p1 o_p1 a_p1_wares o_p1_wares a_p1_shelf o_p1_shelf a_p1_log o_p1_log a_p1_b0 o_p1_b0 a_p1_b1 o_p1_b1 a_p1_b2 o_p1_b2) [] 85 [] := by
    intro o41' o42' o43' hz
    cases hz
    cases hF
    exact z_vret X hA hQ hr dX9_copyFrom_85 (Nat.le_refl _) (Nat.le_refl _)
  obtain ⟨B58, hBB58, hL⟩ := zl4_b hL
  have L44 : ∀ (n : Nat) (o37 : Ob) (o38 : Ob) (o39 : Ob) (k40 : Int32), zl4 B58 n o37 o38 o39 k40 = some (o41, o42, o43) → ZW p l e R s m args below meth c D A 3 0 0 Q (w_X9_copyFrom cA h_t a_t o9 a_t_wares o1 a_t_shelf o3 a_t_log o5 a_t_b0 o37 a_t_b1 o38 a_t_b2 o39 h_p1 a_p1 o_p1 a_p1_wares o_p1_wares a_p1_shelf o_p1_shelf a_p1_log o_p1_log a_p1_b0 o_p1_b0 a_p1_b1 o_p1_b1 a_p1_b2 o_p1_b2) [(0, .ref h_t), (1, .ref h_p1), (2, .int k40)] 59 [] := by
    intro n
    induction n with
    | zero => intro o37 o38 o39 k40 hL; cases hL
    | succ n ih =>
      intro o37 o38 o39 k40 hL
      obtain ⟨zz45, hF, hL⟩ := zl4_e hL
      rw [hBB58] at hF
      refine z_iload_n X dX9_copyFrom_59 rfl 2 rfl ?_
      refine z_iconst (v := (3 : Int32)) X dX9_copyFrom_60 (by decide) ?_
      have hF := if_e hF
      refine z_icmp_ge (tgt := 85) X dX9_copyFrom_61 (by decide) (fun c57 => ?_) (fun c57 => ?_)
      · have hF := hF.1 c57
        cases hF
        have hL := Option.some.inj hL
        refine z_lv (lv' := []) [] rfl ?_
        exact L44_x o37 o38 o39 hL
      · have hF := hF.2 c57
        refine z_aload_n X dX9_copyFrom_64 rfl 0 rfl ?_
        refine z_get (v := .ref (a_t 3)) X k_X9_copyFrom_34 0 rfl rfl dX9_copyFrom_65 ?_
        refine z_iload_n X dX9_copyFrom_68 rfl 2 rfl ?_
        obtain ⟨g46, hF⟩ := gi_e hF
        have hF := if_e hF
        refine z_bk X 1 rfl g46 dX9_copyFrom_69 (fun c0c56 => ?_) (fun c0c56 c1c56 => ?_) (fun c0c56 c1c56 c2c56 => ?_)
        · have hF := hF.1 c0c56
          refine z_aload_n X dX9_copyFrom_70 rfl 1 rfl ?_
          refine z_get (v := .ref (a_p1 3)) X k_X9_copyFrom_34 28 rfl rfl dX9_copyFrom_71 ?_
          refine z_iload_n X dX9_copyFrom_74 rfl 2 rfl ?_
          refine z_bk0 X 29 rfl (by first | assumption | omega) dX9_copyFrom_75 ?_
          obtain ⟨o47, hc48, hF⟩ := zb1_e hF
          refine z_Vv (As := [.ref (a_p1 20)]) (rest := []) (wc := (w_X0_copyFrom cA (a_t 20) a_t_b0 o37 (a_p1 20) a_p1_b0 o_p1_b0)) (wc' := (w_X0_copyFrom cA (a_t 20) a_t_b0 o47 (a_p1 20) a_p1_b0 o_p1_b0)) (ws' := (w_X9_copyFrom cA h_t a_t o9 a_t_wares o1 a_t_shelf o3 a_t_log o5 a_t_b0 o47 a_t_b1 o38 a_t_b2 o39 h_p1 a_p1 o_p1 a_p1_wares o_p1_wares a_p1_shelf o_p1_shelf a_p1_log o_p1_log a_p1_b0 o_p1_b0 a_p1_b1 o_p1_b1 a_p1_b2 o_p1_b2)) X (cwV 1 X.2.2.2.2.1 gX9_copyFrom_X0_copyFrom rfl rfl rfl (by decide +kernel) (by rw [hR]; exact ⟨Nat.le_of_ble_eq_true rfl, Nat.le_of_ble_eq_true rfl⟩)) (fun sz => c_X0_copyFrom l D cA g sz (a_t 20) a_t_b0 o37 (a_p1 20) a_p1_b0 o_p1_b0 o47 hc48) [16, 17, 18, 19, 44, 45, 46, 47] [0, 1, 2, 3, 4, 5, 6, 7, 8, 9, 10, 11, 12, 13, 14, 15, 1000, 1001, 1002, 1003, 20, 21, 22, 23, 24, 25, 26, 27, 28, 29, 30, 31, 32, 33, 34, 35, 36, 37, 38, 39, 40, 41, 42, 43, 1004, 1005, 1006, 1007, 48, 49, 50, 51, 52, 53, 54, 55] rfl (by decide) rfl (by decide) rfl rfl rfl rfl rfl rfl (Nat.le_of_ble_eq_true rfl) dX9_copyFrom_76 ⟨Nat.zero_le _, Nat.zero_le _⟩ ?_
          obtain ⟨x49, ex49, hF⟩ := nx_e hF
          refine z_iinc (v := x49) (lv' := [(2, .int x49), (0, .ref h_t), (1, .ref h_p1)]) (j := 2) X dX9_copyFrom_79 rfl (by rw [ex49]; rfl) (by decide) rfl ?_
          refine z_goto (tgt := 59) X dX9_copyFrom_82 (by decide) ?_
          cases hF
          refine z_lv (lv' := [(0, .ref h_t), (1, .ref h_p1), (2, .int x49)]) [1, 2, 0] rfl ?_
          exact ih o47 o38 o39 x49 hL
        · have hF := (if_e (hF.2 c0c56)).1 c1c56
          refine z_aload_n X dX9_copyFrom_70 rfl 1 rfl ?_
          refine z_get (v := .ref (a_p1 3)) X k_X9_copyFrom_34 28 rfl rfl dX9_copyFrom_71 ?_
          refine z_iload_n X dX9_copyFrom_74 rfl 2 rfl ?_
          refine z_bk1 X 29 rfl (by first | assumption | omega) dX9_copyFrom_75 ?_
          obtain ⟨o50, hc51, hF⟩ := zb1_e hF
          refine z_Vv (As := [.ref (a_p1 21)]) (rest := []) (wc := (w_X0_copyFrom cA (a_t 21) a_t_b1 o38 (a_p1 21) a_p1_b1 o_p1_b1)) (wc' := (w_X0_copyFrom cA (a_t 21) a_t_b1 o50 (a_p1 21) a_p1_b1 o_p1_b1)) (ws' := (w_X9_copyFrom cA h_t a_t o9 a_t_wares o1 a_t_shelf o3 a_t_log o5 a_t_b0 o37 a_t_b1 o50 a_t_b2 o39 h_p1 a_p1 o_p1 a_p1_wares o_p1_wares a_p1_shelf o_p1_shelf a_p1_log o_p1_log a_p1_b0 o_p1_b0 a_p1_b1 o_p1_b1 a_p1_b2 o_p1_b2)) X (cwV 1 X.2.2.2.2.1 gX9_copyFrom_X0_copyFrom rfl rfl rfl (by decide +kernel) (by rw [hR]; exact ⟨Nat.le_of_ble_eq_true rfl, Nat.le_of_ble_eq_true rfl⟩)) (fun sz => c_X0_copyFrom l D cA g sz (a_t 21) a_t_b1 o38 (a_p1 21) a_p1_b1 o_p1_b1 o50 hc51) [20, 21, 22, 23, 48, 49, 50, 51] [0, 1, 2, 3, 4, 5, 6, 7, 8, 9, 10, 11, 12, 13, 14, 15, 16, 17, 18, 19, 1000, 1001, 1002, 1003, 24, 25, 26, 27, 28, 29, 30, 31, 32, 33, 34, 35, 36, 37, 38, 39, 40, 41, 42, 43, 44, 45, 46, 47, 1004, 1005, 1006, 1007, 52, 53, 54, 55] rfl (by decide) rfl (by decide) rfl rfl rfl rfl rfl rfl (Nat.le_of_ble_eq_true rfl) dX9_copyFrom_76 ⟨Nat.zero_le _, Nat.zero_le _⟩ ?_
          obtain ⟨x52, ex52, hF⟩ := nx_e hF
          refine z_iinc (v := x52) (lv' := [(2, .int x52), (0, .ref h_t), (1, .ref h_p1)]) (j := 2) X dX9_copyFrom_79 rfl (by rw [ex52]; rfl) (by decide) rfl ?_
          refine z_goto (tgt := 59) X dX9_copyFrom_82 (by decide) ?_
          cases hF
          refine z_lv (lv' := [(0, .ref h_t), (1, .ref h_p1), (2, .int x52)]) [1, 2, 0] rfl ?_
          exact ih o37 o50 o39 x52 hL
        · have hF := (if_e (hF.2 c0c56)).2 c1c56
          refine z_aload_n X dX9_copyFrom_70 rfl 1 rfl ?_
          refine z_get (v := .ref (a_p1 3)) X k_X9_copyFrom_34 28 rfl rfl dX9_copyFrom_71 ?_
          refine z_iload_n X dX9_copyFrom_74 rfl 2 rfl ?_
          refine z_bk2 X 29 rfl (by first | assumption | omega) dX9_copyFrom_75 ?_
          obtain ⟨o53, hc54, hF⟩ := zb1_e hF
          refine z_Vv (As := [.ref (a_p1 22)]) (rest := []) (wc := (w_X0_copyFrom cA (a_t 22) a_t_b2 o39 (a_p1 22) a_p1_b2 o_p1_b2)) (wc' := (w_X0_copyFrom cA (a_t 22) a_t_b2 o53 (a_p1 22) a_p1_b2 o_p1_b2)) (ws' := (w_X9_copyFrom cA h_t a_t o9 a_t_wares o1 a_t_shelf o3 a_t_log o5 a_t_b0 o37 a_t_b1 o38 a_t_b2 o53 h_p1 a_p1 o_p1 a_p1_wares o_p1_wares a_p1_shelf o_p1_shelf a_p1_log o_p1_log a_p1_b0 o_p1_b0 a_p1_b1 o_p1_b1 a_p1_b2 o_p1_b2)) X (cwV 1 X.2.2.2.2.1 gX9_copyFrom_X0_copyFrom rfl rfl rfl (by decide +kernel) (by rw [hR]; exact ⟨Nat.le_of_ble_eq_true rfl, Nat.le_of_ble_eq_true rfl⟩)) (fun sz => c_X0_copyFrom l D cA g sz (a_t 22) a_t_b2 o39 (a_p1 22) a_p1_b2 o_p1_b2 o53 hc54) [24, 25, 26, 27, 52, 53, 54, 55] [0, 1, 2, 3, 4, 5, 6, 7, 8, 9, 10, 11, 12, 13, 14, 15, 16, 17, 18, 19, 20, 21, 22, 23, 1000, 1001, 1002, 1003, 28, 29, 30, 31, 32, 33, 34, 35, 36, 37, 38, 39, 40, 41, 42, 43, 44, 45, 46, 47, 48, 49, 50, 51, 1004, 1005, 1006, 1007] rfl (by decide) rfl (by decide) rfl rfl rfl rfl rfl rfl (Nat.le_of_ble_eq_true rfl) dX9_copyFrom_76 ⟨Nat.zero_le _, Nat.zero_le _⟩ ?_
          obtain ⟨x55, ex55, hF⟩ := nx_e hF
          refine z_iinc (v := x55) (lv' := [(2, .int x55), (0, .ref h_t), (1, .ref h_p1)]) (j := 2) X dX9_copyFrom_79 rfl (by rw [ex55]; rfl) (by decide) rfl ?_
          refine z_goto (tgt := 59) X dX9_copyFrom_82 (by decide) ?_
          cases hF
          refine z_lv (lv' := [(0, .ref h_t), (1, .ref h_p1), (2, .int x55)]) [1, 2, 0] rfl ?_
          exact ih o37 o38 o53 x55 hL
  refine z_lv (lv' := [(0, .ref h_t), (1, .ref h_p1), (2, .int (0 : Int32))]) [1, 2, 0] rfl ?_
  exact L44 FU o_t_b0 o_t_b1 o_t_b2 (0 : Int32) hL
abbrev w_X4_has (cA : Nat → ClassId) (h_t : Nat) (a_t : Nat → Nat) (o_t : Ob) : va_W := [(h_t, .inr (4, [.int (o_t 0 0), .ref (a_t 1), .ref (a_t 2), .ref (a_t 3), .ref (a_t 4)])), (a_t 1, .inl (cA 0, 40, .inl (o_t 1))), (a_t 2, .inl (cA 0, 40, .inl (o_t 2))), (a_t 3, .inl (cA 0, 40, .inl (o_t 3))), (a_t 4, .inl (cA 0, 320, .inl (o_t 4)))]
set_option maxRecDepth 20000 in
theorem h_X4_has_X4 : ∀ w ∈ wsX40, w ∈ wsX4_has := by decide +kernel
set_option maxRecDepth 20000 in
theorem k_X4_has_24 : ZF wsX4_has RX4 24 4 0 RX4 TX4 5 := ⟨rfl, by decide, h_X4_has_X4, by decide +kernel⟩
set_option maxHeartbeats 8000000 in
set_option maxRecDepth 100000 in
theorem c_X4_has (l : Launch) (D : va_G) (cA : Nat → ClassId) (g : Nat → Nat) (sz : Nat) (h_t : Nat) (a_t : Nat → Nat) (o_t : Ob) (v1 : Int32) (rv : Int32) (hF : f_X4_has o_t v1 = some rv) : Met l yX4_has wsX4_has ({ frames := 0, cells := 0, slots := 0, locals := 0 }) (va_Pc [.ref h_t, .int v1] (PreW D cA g sz (w_X4_has cA h_t a_t o_t))) (va_Qi (fun (r : Int32) (_ : Unit) => r = rv) (PostW D cA sz (w_X4_has cA h_t a_t o_t) (w_X4_has cA h_t a_t o_t)) (va_A (w_X4_has cA h_t a_t o_t) sz)) 0 0 (va_A (w_X4_has cA h_t a_t o_t) sz) := by
  refine z_start (cc := cX4_has) (maxL := 2) (ret := (some .boolean)) (lv0 := [(0, .ref h_t), (1, .int v1)]) (Qc := fun sz => va_Qi (fun (r : Int32) (_ : Unit) => r = rv) (PostW D cA sz (w_X4_has cA h_t a_t o_t) (w_X4_has cA h_t a_t o_t)) (va_A (w_X4_has cA h_t a_t o_t) sz)) (free := fun sz => va_A (w_X4_has cA h_t a_t o_t) sz) (by decide +kernel) rfl rfl (Nat.le_of_ble_eq_true rfl) ?_
  intro p e R s m args below meth c A Q hR hA hQ X hr hin
  unfold f_X4_has at hF
  refine z_iload_n X dX4_has_0 rfl 1 rfl ?_
  have hF := if_e hF
  refine z_if_lt (tgt := 16) X dX4_has_1 (by decide) (fun c2 => ?_) (fun c2 => ?_)
  · have hF := hF.1 c2
    refine z_iconst (v := (0 : Int32)) X dX4_has_16 (by decide) ?_
    cases hF
    exact z_zret X hA hQ hr (Or.inl rfl)  rfl dX4_has_17 (Nat.le_refl _) (Nat.le_refl _)
  · have hF := hF.2 c2
    refine z_iload_n X dX4_has_4 rfl 1 rfl ?_
    refine z_aload_n X dX4_has_5 rfl 0 rfl ?_
    refine z_get (v := .int (o_t 0 0)) X k_X4_has_24 0 rfl rfl dX4_has_6 ?_
    have hF := if_e hF
    refine z_icmp_ge (tgt := 16) X dX4_has_9 (by decide) (fun c1 => ?_) (fun c1 => ?_)
    · have hF := hF.1 c1
      refine z_iconst (v := (0 : Int32)) X dX4_has_16 (by decide) ?_
      cases hF
      exact z_zret X hA hQ hr (Or.inl rfl)  rfl dX4_has_17 (Nat.le_refl _) (Nat.le_refl _)
    · have hF := hF.2 c1
      refine z_iconst (v := (1 : Int32)) X dX4_has_12 (by decide) ?_
      refine z_goto (tgt := 17) X dX4_has_13 (by decide) ?_
      cases hF
      exact z_zret X hA hQ hr (Or.inr rfl)  rfl dX4_has_17 (Nat.le_refl _) (Nat.le_refl _)
set_option maxRecDepth 20000 in
theorem h_X4_isFull_X4 : ∀ w ∈ wsX40, w ∈ wsX4_isFull := by decide +kernel
set_option maxRecDepth 20000 in
theorem k_X4_isFull_24 : ZF wsX4_isFull RX4 24 4 0 RX4 TX4 5 := ⟨rfl, by decide, h_X4_isFull_X4, by decide +kernel⟩
set_option maxHeartbeats 8000000 in
set_option maxRecDepth 100000 in
theorem c_X4_isFull (l : Launch) (D : va_G) (cA : Nat → ClassId) (g : Nat → Nat) (sz : Nat) (h_t : Nat) (a_t : Nat → Nat) (o_t : Ob)  (rv : Int32) (hF : f_X4_isFull o_t = some rv) : Met l yX4_isFull wsX4_isFull ({ frames := 0, cells := 0, slots := 0, locals := 0 }) (va_Pc [.ref h_t] (PreW D cA g sz (w_X4_has cA h_t a_t o_t))) (va_Qi (fun (r : Int32) (_ : Unit) => r = rv) (PostW D cA sz (w_X4_has cA h_t a_t o_t) (w_X4_has cA h_t a_t o_t)) (va_A (w_X4_has cA h_t a_t o_t) sz)) 0 0 (va_A (w_X4_has cA h_t a_t o_t) sz) := by
  refine z_start (cc := cX4_isFull) (maxL := 1) (ret := (some .boolean)) (lv0 := [(0, .ref h_t)]) (Qc := fun sz => va_Qi (fun (r : Int32) (_ : Unit) => r = rv) (PostW D cA sz (w_X4_has cA h_t a_t o_t) (w_X4_has cA h_t a_t o_t)) (va_A (w_X4_has cA h_t a_t o_t) sz)) (free := fun sz => va_A (w_X4_has cA h_t a_t o_t) sz) (by decide +kernel) rfl rfl (Nat.le_of_ble_eq_true rfl) ?_
  intro p e R s m args below meth c A Q hR hA hQ X hr hin
  unfold f_X4_isFull at hF
  refine z_aload_n X dX4_isFull_0 rfl 0 rfl ?_
  refine z_get (v := .int (o_t 0 0)) X k_X4_isFull_24 0 rfl rfl dX4_isFull_1 ?_
  refine z_bipush (v := (40 : Int32)) X dX4_isFull_4 (by decide) ?_
  have hF := if_e hF
  refine z_icmp_lt (tgt := 13) X dX4_isFull_6 (by decide) (fun c1 => ?_) (fun c1 => ?_)
  · have hF := hF.1 c1
    refine z_iconst (v := (0 : Int32)) X dX4_isFull_13 (by decide) ?_
    cases hF
    exact z_zret X hA hQ hr (Or.inl rfl)  rfl dX4_isFull_14 (Nat.le_refl _) (Nat.le_refl _)
  · have hF := hF.2 c1
    refine z_iconst (v := (1 : Int32)) X dX4_isFull_9 (by decide) ?_
    refine z_goto (tgt := 14) X dX4_isFull_10 (by decide) ?_
    cases hF
    exact z_zret X hA hQ hr (Or.inr rfl)  rfl dX4_isFull_14 (Nat.le_refl _) (Nat.le_refl _)
set_option maxRecDepth 20000 in
theorem h_X4_densityBehind_X4 : ∀ w ∈ wsX40, w ∈ wsX4_densityBehind := by decide +kernel
set_option maxRecDepth 20000 in
theorem k_X4_densityBehind_21 : ZF wsX4_densityBehind RX4 21 4 4 RX4 TX4 5 := ⟨rfl, by decide, h_X4_densityBehind_X4, by decide +kernel⟩
set_option maxHeartbeats 8000000 in
set_option maxRecDepth 100000 in
theorem c_X4_densityBehind (l : Launch) (D : va_G) (cA : Nat → ClassId) (g : Nat → Nat) (sz : Nat) (h_t : Nat) (a_t : Nat → Nat) (o_t : Ob) (v1 : Int32) (v2 : Int32) (rv : Int32) (hF : f_X4_densityBehind o_t v1 v2 = some rv) : Met l yX4_densityBehind wsX4_densityBehind ({ frames := 0, cells := 0, slots := 0, locals := 0 }) (va_Pc [.ref h_t, .int v1, .int v2] (PreW D cA g sz (w_X4_has cA h_t a_t o_t))) (va_Qi (fun (r : Int32) (_ : Unit) => r = rv) (PostW D cA sz (w_X4_has cA h_t a_t o_t) (w_X4_has cA h_t a_t o_t)) (va_A (w_X4_has cA h_t a_t o_t) sz)) 0 0 (va_A (w_X4_has cA h_t a_t o_t) sz) := by
  refine z_start (cc := cX4_densityBehind) (maxL := 3) (ret := (some .int)) (lv0 := [(0, .ref h_t), (1, .int v1), (2, .int v2)]) (Qc := fun sz => va_Qi (fun (r : Int32) (_ : Unit) => r = rv) (PostW D cA sz (w_X4_has cA h_t a_t o_t) (w_X4_has cA h_t a_t o_t)) (va_A (w_X4_has cA h_t a_t o_t) sz)) (free := fun sz => va_A (w_X4_has cA h_t a_t o_t) sz) (by decide +kernel) rfl rfl (Nat.le_of_ble_eq_true rfl) ?_
  intro p e R s m args below meth c A Q hR hA hQ X hr hin
  unfold f_X4_densityBehind at hF
  refine z_aload_n X dX4_densityBehind_0 rfl 0 rfl ?_
  refine z_get (v := .ref (a_t 4)) X k_X4_densityBehind_21 0 rfl rfl dX4_densityBehind_1 ?_
  refine z_iload_n X dX4_densityBehind_4 rfl 1 rfl ?_
  refine z_bipush (v := (8 : Int32)) X dX4_densityBehind_5 (by decide) ?_
  refine z_imul X dX4_densityBehind_7 ?_
  refine z_iload_n X dX4_densityBehind_8 rfl 2 rfl ?_
  refine z_iadd X dX4_densityBehind_9 ?_
  obtain ⟨g1, hF⟩ := gi_e hF
  refine z_iald X 4 rfl g1 dX4_densityBehind_10 ?_
  cases hF
  exact z_iret X hA hQ hr rfl dX4_densityBehind_11 (Nat.le_refl _) (Nat.le_refl _)
abbrev w_X4_add (cA : Nat → ClassId) (h_t : Nat) (a_t : Nat → Nat) (o_t : Ob) (h_p3 : Nat) (a_p3 : Nat → Nat) (o_p3 : Ob) : va_W := [(h_t, .inr (4, [.int (o_t 0 0), .ref (a_t 1), .ref (a_t 2), .ref (a_t 3), .ref (a_t 4)])), (a_t 1, .inl (cA 0, 40, .inl (o_t 1))), (a_t 2, .inl (cA 0, 40, .inl (o_t 2))), (a_t 3, .inl (cA 0, 40, .inl (o_t 3))), (a_t 4, .inl (cA 0, 320, .inl (o_t 4))), (h_p3, .inr (8, [.int (o_p3 0 0), .int (o_p3 1 0), .int (o_p3 2 0), .int (o_p3 3 0), .ref (a_p3 4), .ref (a_p3 5), .ref (a_p3 6)])), (a_p3 4, .inl (cA 0, 8, .inl (o_p3 4))), (a_p3 5, .inl (cA 0, 8, .inl (o_p3 5))), (a_p3 6, .inl (cA 1, 8, .inr (.inr (.inl (fun j => (o_p3 6 j).toUInt32)))))]
set_option maxRecDepth 20000 in
theorem h_X4_add_X4 : ∀ w ∈ wsX40, w ∈ wsX4_add := by decide +kernel
set_option maxRecDepth 20000 in
theorem k_X4_add_9 : ZF wsX4_add RX4 9 4 1 RX4 TX4 5 := ⟨rfl, by decide, h_X4_add_X4, by decide +kernel⟩
set_option maxRecDepth 20000 in
theorem k_X4_add_15 : ZF wsX4_add RX4 15 4 2 RX4 TX4 5 := ⟨rfl, by decide, h_X4_add_X4, by decide +kernel⟩
set_option maxRecDepth 20000 in
theorem k_X4_add_18 : ZF wsX4_add RX4 18 4 3 RX4 TX4 5 := ⟨rfl, by decide, h_X4_add_X4, by decide +kernel⟩
set_option maxRecDepth 20000 in
theorem k_X4_add_21 : ZF wsX4_add RX4 21 4 4 RX4 TX4 5 := ⟨rfl, by decide, h_X4_add_X4, by decide +kernel⟩
set_option maxRecDepth 20000 in
theorem k_X4_add_24 : ZF wsX4_add RX4 24 4 0 RX4 TX4 5 := ⟨rfl, by decide, h_X4_add_X4, by decide +kernel⟩
set_option maxRecDepth 20000 in
theorem h_X4_add_X8 : ∀ w ∈ wsX80, w ∈ wsX4_add := by decide +kernel
set_option maxRecDepth 20000 in
theorem k_X4_add_32 : ZF wsX4_add RX4 32 8 2 RX8 TX8 7 := ⟨rfl, by decide, h_X4_add_X8, by decide +kernel⟩
set_option maxRecDepth 20000 in
theorem k_X4_add_36 : ZF wsX4_add RX4 36 8 4 RX8 TX8 7 := ⟨rfl, by decide, h_X4_add_X8, by decide +kernel⟩
set_option maxRecDepth 20000 in
theorem k_X4_add_n37 : ZN wsX4_add RX4 37 arraycopyName "java/lang/System" := ⟨by decide +kernel, by decide +kernel, by decide +kernel, by decide +kernel⟩
set_option maxHeartbeats 8000000 in
set_option maxRecDepth 100000 in
theorem c_X4_add (l : Launch) (D : va_G) (cA : Nat → ClassId) (g : Nat → Nat) (sz : Nat) (h_t : Nat) (a_t : Nat → Nat) (o_t : Ob) (h_p3 : Nat) (a_p3 : Nat → Nat) (o_p3 : Ob) (v1 : Int32) (v2 : Int32) (o_t' : Ob) (hF : f_X4_add o_t o_p3 v1 v2 = some o_t') : Met l yX4_add wsX4_add ({ frames := 1, cells := 0, slots := 0, locals := 48 }) (va_Pc [.ref h_t, .int v1, .int v2, .ref h_p3] (PreW D cA g sz (w_X4_add cA h_t a_t o_t h_p3 a_p3 o_p3))) (va_Qv (fun (_ : Unit) => True) (PostW D cA sz (w_X4_add cA h_t a_t o_t h_p3 a_p3 o_p3) (w_X4_add cA h_t a_t o_t' h_p3 a_p3 o_p3)) (va_A (w_X4_add cA h_t a_t o_t h_p3 a_p3 o_p3) sz)) 0 0 (va_A (w_X4_add cA h_t a_t o_t h_p3 a_p3 o_p3) sz) := by
  refine z_start (cc := cX4_add) (maxL := 4) (ret := none) (lv0 := [(0, .ref h_t), (1, .int v1), (2, .int v2), (3, .ref h_p3)]) (Qc := fun sz => va_Qv (fun (_ : Unit) => True) (PostW D cA sz (w_X4_add cA h_t a_t o_t h_p3 a_p3 o_p3) (w_X4_add cA h_t a_t o_t' h_p3 a_p3 o_p3)) (va_A (w_X4_add cA h_t a_t o_t h_p3 a_p3 o_p3) sz)) (free := fun sz => va_A (w_X4_add cA h_t a_t o_t h_p3 a_p3 o_p3) sz) (by decide +kernel) rfl rfl (Nat.le_of_ble_eq_true rfl) ?_
  intro p e R s m args below meth c A Q hR hA hQ X hr hin
  unfold f_X4_add at hF
  refine z_aload_n X dX4_add_0 rfl 0 rfl ?_
  obtain ⟨r1, hc2, hF⟩ := zb1_e hF
  refine z_Vi (As := []) (rest := []) (wc := (w_X4_has cA h_t a_t o_t)) (wc' := (w_X4_has cA h_t a_t o_t)) (ws' := (w_X4_add cA h_t a_t o_t h_p3 a_p3 o_p3)) (rv := r1) X (cwV 0 X.2.2.2.2.1 gX4_add_X4_isFull rfl rfl rfl (by decide +kernel) (by rw [hR]; exact ⟨Nat.le_of_ble_eq_true rfl, Nat.le_of_ble_eq_true rfl⟩)) (fun sz => c_X4_isFull l D cA g sz h_t a_t o_t r1 hc2) [0, 1, 2, 3, 4] [1000, 1001, 1002, 1003, 1004, 5, 6, 7, 8] rfl (by decide) rfl (by decide) rfl rfl rfl rfl rfl rfl (Nat.le_of_ble_eq_true rfl) dX4_add_1 ⟨Nat.zero_le _, Nat.zero_le _⟩ ?_
  have hF := if_e hF
  refine z_if_eq (tgt := 8) X dX4_add_4 (by decide) (fun c12 => ?_) (fun c12 => ?_)
  · have hF := hF.1 c12
    refine z_aload_n X dX4_add_8 rfl 0 rfl ?_
    refine z_get (v := .ref (a_t 1)) X k_X4_add_9 0 rfl rfl dX4_add_9 ?_
    refine z_aload_n X dX4_add_12 rfl 0 rfl ?_
    refine z_get (v := .int (o_t 0 0)) X k_X4_add_24 0 rfl rfl dX4_add_13 ?_
    refine z_iload_n X dX4_add_16 rfl 1 rfl ?_
    obtain ⟨g3, hF⟩ := gi_e hF
    obtain ⟨o4, eo4, hF⟩ := nx_e hF
    refine z_iast (ws' := (w_X4_add cA h_t a_t o4 h_p3 a_p3 o_p3)) X 1 rfl g3 (by rw [eo4]; rfl) dX4_add_17 ?_
    refine z_aload_n X dX4_add_18 rfl 0 rfl ?_
    refine z_get (v := .ref (a_t 2)) X k_X4_add_15 0 rfl rfl dX4_add_19 ?_
    refine z_aload_n X dX4_add_22 rfl 0 rfl ?_
    refine z_get (v := .int (o4 0 0)) X k_X4_add_24 0 rfl rfl dX4_add_23 ?_
    refine z_iload_n X dX4_add_26 rfl 2 rfl ?_
    obtain ⟨g5, hF⟩ := gi_e hF
    obtain ⟨o6, eo6, hF⟩ := nx_e hF
    refine z_iast (ws' := (w_X4_add cA h_t a_t o6 h_p3 a_p3 o_p3)) X 2 rfl g5 (by rw [eo6]; rfl) dX4_add_27 ?_
    refine z_aload_n X dX4_add_28 rfl 0 rfl ?_
    refine z_get (v := .ref (a_t 3)) X k_X4_add_18 0 rfl rfl dX4_add_29 ?_
    refine z_aload_n X dX4_add_32 rfl 0 rfl ?_
    refine z_get (v := .int (o6 0 0)) X k_X4_add_24 0 rfl rfl dX4_add_33 ?_
    refine z_aload_n X dX4_add_36 rfl 3 rfl ?_
    refine z_get (v := .int (o_p3 2 0)) X k_X4_add_32 5 rfl rfl dX4_add_37 ?_
    obtain ⟨g7, hF⟩ := gi_e hF
    obtain ⟨o8, eo8, hF⟩ := nx_e hF
    refine z_iast (ws' := (w_X4_add cA h_t a_t o8 h_p3 a_p3 o_p3)) X 3 rfl g7 (by rw [eo8]; rfl) dX4_add_40 ?_
    refine z_aload_n X dX4_add_41 rfl 3 rfl ?_
    refine z_get (v := .ref (a_p3 4)) X k_X4_add_36 5 rfl rfl dX4_add_42 ?_
    refine z_iconst (v := (0 : Int32)) X dX4_add_45 (by decide) ?_
    refine z_aload_n X dX4_add_46 rfl 0 rfl ?_
    refine z_get (v := .ref (a_t 4)) X k_X4_add_21 0 rfl rfl dX4_add_47 ?_
    refine z_aload_n X dX4_add_50 rfl 0 rfl ?_
    refine z_get (v := .int (o8 0 0)) X k_X4_add_24 0 rfl rfl dX4_add_51 ?_
    refine z_bipush (v := (8 : Int32)) X dX4_add_54 (by decide) ?_
    refine z_imul X dX4_add_56 ?_
    refine z_bipush (v := (8 : Int32)) X dX4_add_57 (by decide) ?_
    obtain ⟨g91, g92, hF⟩ := gc_e hF
    obtain ⟨o10, eo10, hF⟩ := nx_e hF
    refine z_copyi (ws' := (w_X4_add cA h_t a_t o10 h_p3 a_p3 o_p3)) X k_X4_add_n37 6 4 rfl rfl g91 g92 (by rw [eo10]; rfl) (by rw [hR]; exact Nat.le_of_ble_eq_true rfl) (by rw [hR]; exact Nat.le_of_ble_eq_true rfl) dX4_add_59 ?_
    refine z_aload_n X dX4_add_62 rfl 0 rfl ?_
    refine z_dup X dX4_add_63 rfl ?_
    refine z_get (v := .int (o10 0 0)) X k_X4_add_24 0 rfl rfl dX4_add_64 ?_
    refine z_iconst (v := (1 : Int32)) X dX4_add_67 (by decide) ?_
    refine z_iadd X dX4_add_68 ?_
    obtain ⟨o11, eo11, hF⟩ := nx_e hF
    refine z_put (ws' := (w_X4_add cA h_t a_t o11 h_p3 a_p3 o_p3)) X k_X4_add_24 tyX4 tyX4_ok nmX4 rfl rfl 0 rfl (Nat.le_of_ble_eq_true rfl) (by rw [eo11]; rfl) dX4_add_69 ?_
    cases hF
    exact z_vret X hA hQ hr dX4_add_72 (Nat.le_refl _) (Nat.le_refl _)
  · have hF := hF.2 c12
    cases hF
    exact z_vret X hA hQ hr dX4_add_7 (Nat.le_refl _) (Nat.le_refl _)
abbrev w_X5_forget (cA : Nat → ClassId) (h_t : Nat) (a_t : Nat → Nat) (n_t : Nat) (o_t : Ob) : va_W := [(h_t, .inr (5, [.int (o_t 0 0), .ref (a_t 1), .ref (a_t 2), .ref (a_t 3), .ref (a_t 4), .int (o_t 5 0), .int (o_t 6 0), .int (o_t 7 0), .int (o_t 8 0), .ref (a_t 9)])), (a_t 1, .inl (cA 0, n_t, .inl (o_t 1))), (a_t 2, .inl (cA 0, 256, .inl (o_t 2))), (a_t 3, .inl (cA 0, 256, .inl (o_t 3))), (a_t 4, .inl (cA 0, 256, .inl (o_t 4))), (a_t 9, .inl (cA 0, 40, .inl (o_t 9)))]
set_option maxRecDepth 20000 in
theorem h_X5_forget_X5 : ∀ w ∈ wsX50, w ∈ wsX5_forget := by decide +kernel
set_option maxRecDepth 20000 in
theorem k_X5_forget_21 : ZF wsX5_forget RX5 21 5 7 RX5 TX5 10 := ⟨rfl, by decide, h_X5_forget_X5, by decide +kernel⟩
set_option maxRecDepth 20000 in
theorem k_X5_forget_25 : ZF wsX5_forget RX5 25 5 8 RX5 TX5 10 := ⟨rfl, by decide, h_X5_forget_X5, by decide +kernel⟩
set_option maxHeartbeats 8000000 in
set_option maxRecDepth 100000 in
theorem c_X5_forget (l : Launch) (D : va_G) (cA : Nat → ClassId) (g : Nat → Nat) (sz : Nat) (h_t : Nat) (a_t : Nat → Nat) (n_t : Nat) (o_t : Ob)  (o_t' : Ob) (hF : f_X5_forget o_t = some o_t') : Met l yX5_forget wsX5_forget ({ frames := 0, cells := 0, slots := 0, locals := 0 }) (va_Pc [.ref h_t] (PreW D cA g sz (w_X5_forget cA h_t a_t n_t o_t))) (va_Qv (fun (_ : Unit) => True) (PostW D cA sz (w_X5_forget cA h_t a_t n_t o_t) (w_X5_forget cA h_t a_t n_t o_t')) (va_A (w_X5_forget cA h_t a_t n_t o_t) sz)) 0 0 (va_A (w_X5_forget cA h_t a_t n_t o_t) sz) := by
  refine z_start (cc := cX5_forget) (maxL := 1) (ret := none) (lv0 := [(0, .ref h_t)]) (Qc := fun sz => va_Qv (fun (_ : Unit) => True) (PostW D cA sz (w_X5_forget cA h_t a_t n_t o_t) (w_X5_forget cA h_t a_t n_t o_t')) (va_A (w_X5_forget cA h_t a_t n_t o_t) sz)) (free := fun sz => va_A (w_X5_forget cA h_t a_t n_t o_t) sz) (by decide +kernel) rfl rfl (Nat.le_of_ble_eq_true rfl) ?_
  intro p e R s m args below meth c A Q hR hA hQ X hr hin
  unfold f_X5_forget at hF
  refine z_aload_n X dX5_forget_0 rfl 0 rfl ?_
  refine z_iconst (v := (-1 : Int32)) X dX5_forget_1 (by decide) ?_
  obtain ⟨o1, eo1, hF⟩ := nx_e hF
  refine z_put (ws' := (w_X5_forget cA h_t a_t n_t o1)) X k_X5_forget_21 tyX5 tyX5_ok nmX5 rfl rfl 0 rfl (Nat.le_of_ble_eq_true rfl) (by rw [eo1]; rfl) dX5_forget_2 ?_
  refine z_aload_n X dX5_forget_5 rfl 0 rfl ?_
  refine z_iconst (v := (-1 : Int32)) X dX5_forget_6 (by decide) ?_
  obtain ⟨o2, eo2, hF⟩ := nx_e hF
  refine z_put (ws' := (w_X5_forget cA h_t a_t n_t o2)) X k_X5_forget_25 tyX5 tyX5_ok nmX5 rfl rfl 0 rfl (Nat.le_of_ble_eq_true rfl) (by rw [eo2]; rfl) dX5_forget_7 ?_
  cases hF
  exact z_vret X hA hQ hr dX5_forget_10 (Nat.le_refl _) (Nat.le_refl _)
set_option maxRecDepth 20000 in
theorem h_X5_row_X5 : ∀ w ∈ wsX50, w ∈ wsX5_row := by decide +kernel
set_option maxRecDepth 20000 in
theorem k_X5_row_31 : ZF wsX5_row RX5 31 5 0 RX5 TX5 10 := ⟨rfl, by decide, h_X5_row_X5, by decide +kernel⟩
set_option maxHeartbeats 8000000 in
set_option maxRecDepth 100000 in
theorem c_X5_row (l : Launch) (D : va_G) (cA : Nat → ClassId) (g : Nat → Nat) (sz : Nat) (h_t : Nat) (a_t : Nat → Nat) (n_t : Nat) (o_t : Ob) (v1 : Int32) (rv : Int32) (hF : f_X5_row o_t v1 = some rv) : Met l yX5_row wsX5_row ({ frames := 0, cells := 0, slots := 0, locals := 0 }) (va_Pc [.ref h_t, .int v1] (PreW D cA g sz (w_X5_forget cA h_t a_t n_t o_t))) (va_Qi (fun (r : Int32) (_ : Unit) => r = rv) (PostW D cA sz (w_X5_forget cA h_t a_t n_t o_t) (w_X5_forget cA h_t a_t n_t o_t)) (va_A (w_X5_forget cA h_t a_t n_t o_t) sz)) 0 0 (va_A (w_X5_forget cA h_t a_t n_t o_t) sz) := by
  refine z_start (cc := cX5_row) (maxL := 2) (ret := (some .int)) (lv0 := [(0, .ref h_t), (1, .int v1)]) (Qc := fun sz => va_Qi (fun (r : Int32) (_ : Unit) => r = rv) (PostW D cA sz (w_X5_forget cA h_t a_t n_t o_t) (w_X5_forget cA h_t a_t n_t o_t)) (va_A (w_X5_forget cA h_t a_t n_t o_t) sz)) (free := fun sz => va_A (w_X5_forget cA h_t a_t n_t o_t) sz) (by decide +kernel) rfl rfl (Nat.le_of_ble_eq_true rfl) ?_
  intro p e R s m args below meth c A Q hR hA hQ X hr hin
  unfold f_X5_row at hF
  refine z_aload_n X dX5_row_0 rfl 0 rfl ?_
  refine z_get (v := .int (o_t 0 0)) X k_X5_row_31 0 rfl rfl dX5_row_1 ?_
  have hF := if_e hF
  refine z_if_eq (tgt := 11) X dX5_row_4 (by decide) (fun c1 => ?_) (fun c1 => ?_)
  · have hF := hF.1 c1
    refine z_iload_n X dX5_row_11 rfl 1 rfl ?_
    refine z_iconst (v := (1 : Int32)) X dX5_row_12 (by decide) ?_
    refine z_iand X dX5_row_13 ?_
    refine z_sipush (v := (256 : Int32)) X dX5_row_14 (by decide) ?_
    refine z_imul X dX5_row_17 ?_
    cases hF
    exact z_iret X hA hQ hr rfl dX5_row_18 (Nat.le_refl _) (Nat.le_refl _)
  · have hF := hF.2 c1
    refine z_iload_n X dX5_row_7 rfl 1 rfl ?_
    refine z_goto (tgt := 14) X dX5_row_8 (by decide) ?_
    refine z_sipush (v := (256 : Int32)) X dX5_row_14 (by decide) ?_
    refine z_imul X dX5_row_17 ?_
    cases hF
    exact z_iret X hA hQ hr rfl dX5_row_18 (Nat.le_refl _) (Nat.le_refl _)
abbrev w_X10_sumSets__size (cA : Nat → ClassId) (h_t : Nat) (a_t : Nat → Nat) (o_t : Ob) (h_p2 n_p2 : Nat) (f_p2 : Fn) : va_W := [(h_t, .inr (10, [.int (o_t 0 0), .ref (a_t 1), .ref (a_t 2), .ref (a_t 3), .ref (a_t 4)])), (a_t 1, .inl (cA 0, 8, .inl (o_t 1))), (a_t 2, .inl (cA 0, 8, .inl (o_t 2))), (a_t 3, .inl (cA 0, 8, .inl (o_t 3))), (a_t 4, .inl (cA 0, 8, .inl (o_t 4))), (h_p2, .inl (cA 0, n_p2, .inl f_p2))]
set_option maxRecDepth 20000 in
theorem h_X10_sumSets_X10 : ∀ w ∈ wsX100, w ∈ wsX10_sumSets := by decide +kernel
set_option maxRecDepth 20000 in
theorem k_X10_sumSets_24 : ZF wsX10_sumSets RX10 24 10 0 RX10 TX10 5 := ⟨rfl, by decide, h_X10_sumSets_X10, by decide +kernel⟩
set_option maxHeartbeats 8000000 in
set_option maxRecDepth 100000 in
theorem c_X10_sumSets__size (l : Launch) (D : va_G) (cA : Nat → ClassId) (g : Nat → Nat) (sz : Nat) (h_t : Nat) (a_t : Nat → Nat) (o_t : Ob) (h_p2 n_p2 : Nat) (f_p2 : Fn)  (f_p2' : Fn) (hF : f_X10_sumSets__size o_t n_p2 f_p2 = some f_p2') : Met l yX10_sumSets wsX10_sumSets ({ frames := 0, cells := 0, slots := 0, locals := 0 }) (va_Pc [.ref h_t, .ref (a_t 1), .ref h_p2] (PreW D cA g sz (w_X10_sumSets__size cA h_t a_t o_t h_p2 n_p2 f_p2))) (va_Qv (fun (_ : Unit) => True) (PostW D cA sz (w_X10_sumSets__size cA h_t a_t o_t h_p2 n_p2 f_p2) (w_X10_sumSets__size cA h_t a_t o_t h_p2 n_p2 f_p2')) (va_A (w_X10_sumSets__size cA h_t a_t o_t h_p2 n_p2 f_p2) sz)) 0 0 (va_A (w_X10_sumSets__size cA h_t a_t o_t h_p2 n_p2 f_p2) sz) := by
  refine z_start (cc := cX10_sumSets) (maxL := 6) (ret := none) (lv0 := [(0, .ref h_t), (1, .ref (a_t 1)), (2, .ref h_p2)]) (Qc := fun sz => va_Qv (fun (_ : Unit) => True) (PostW D cA sz (w_X10_sumSets__size cA h_t a_t o_t h_p2 n_p2 f_p2) (w_X10_sumSets__size cA h_t a_t o_t h_p2 n_p2 f_p2')) (va_A (w_X10_sumSets__size cA h_t a_t o_t h_p2 n_p2 f_p2) sz)) (free := fun sz => va_A (w_X10_sumSets__size cA h_t a_t o_t h_p2 n_p2 f_p2) sz) (by decide +kernel) rfl rfl (Nat.le_of_ble_eq_true rfl) ?_
  intro p e R s m args below meth c A Q hR hA hQ X hr hin
  unfold f_X10_sumSets__size at hF
  refine z_aload_n X dX10_sumSets_0 rfl 2 rfl ?_
  refine z_iconst (v := (0 : Int32)) X dX10_sumSets_1 (by decide) ?_
  refine z_iconst (v := (0 : Int32)) X dX10_sumSets_2 (by decide) ?_
  obtain ⟨g1, hF⟩ := gi_e hF
  obtain ⟨o2, eo2, hF⟩ := nx_e hF
  refine z_iast (ws' := (w_X10_sumSets__size cA h_t a_t o_t h_p2 n_p2 o2)) X 5 rfl g1 (by rw [eo2]; rfl) dX10_sumSets_3 ?_
  refine z_iconst (v := (0 : Int32)) X dX10_sumSets_4 (by decide) ?_
  refine z_istore_n (lv' := [(3, .int (0 : Int32)), (0, .ref h_t), (1, .ref (a_t 1)), (2, .ref h_p2)]) X dX10_sumSets_5 rfl (by decide) rfl ?_
  obtain ⟨o32, hL, hF⟩ := zb1_e hF
  have L33_x : ∀ (o32' : Fn), o32' = o32 → ZW p l e R s m args below meth c D A 6 0 0 Q (w_X10_sumSets__size cA h_t a_t o_t h_p2 n_p2 o32') [] 56 [] := by
    intro o32' hz
    cases hz
    cases hF
    exact z_vret X hA hQ hr dX10_sumSets_56 (Nat.le_refl _) (Nat.le_refl _)
  obtain ⟨B59, hBB59, hL⟩ := zl2_b hL
  have L33 : ∀ (n : Nat) (o30 : Fn) (k31 : Int32), zl2 B59 n o30 k31 = some o32 → ZW p l e R s m args below meth c D A 6 0 0 Q (w_X10_sumSets__size cA h_t a_t o_t h_p2 n_p2 o30) [(0, .ref h_t), (1, .ref (a_t 1)), (2, .ref h_p2), (3, .int k31)] 6 [] := by
    intro n
    induction n with
    | zero => intro o30 k31 hL; cases hL
    | succ n ih =>
      intro o30 k31 hL
      obtain ⟨zz34, hF, hL⟩ := zl2_e hL
      rw [hBB59] at hF
      refine z_iload_n X dX10_sumSets_6 rfl 3 rfl ?_
      refine z_aload_n X dX10_sumSets_7 rfl 0 rfl ?_
      refine z_get (v := .int (o_t 0 0)) X k_X10_sumSets_24 0 rfl rfl dX10_sumSets_8 ?_
      have hF := if_e hF
      refine z_icmp_ge (tgt := 56) X dX10_sumSets_11 (by decide) (fun c58 => ?_) (fun c58 => ?_)
      · have hF := hF.1 c58
        cases hF
        have hL := Option.some.inj hL
        refine z_lv (lv' := []) [] rfl ?_
        exact L33_x o30 hL
      · have hF := hF.2 c58
        refine z_iconst (v := (1 : Int32)) X dX10_sumSets_14 (by decide) ?_
        refine z_iload_n X dX10_sumSets_15 rfl 3 rfl ?_
        refine z_ishl X dX10_sumSets_16 ?_
        obtain ⟨x35, ex35, hF⟩ := nx_e hF
        refine z_nm ex35 ?_
        refine z_istore (lv' := [(4, .int x35), (0, .ref h_t), (1, .ref (a_t 1)), (2, .ref h_p2), (3, .int k31)]) X dX10_sumSets_17 (by decide) rfl ?_
        refine z_iconst (v := (0 : Int32)) X dX10_sumSets_19 (by decide) ?_
        refine z_istore (lv' := [(5, .int (0 : Int32)), (4, .int x35), (0, .ref h_t), (1, .ref (a_t 1)), (2, .ref h_p2), (3, .int k31)]) X dX10_sumSets_20 (by decide) rfl ?_
        obtain ⟨o47, hL, hF⟩ := zb1_e hF
        have L49_x : ∀ (o47' : Fn), o47' = o47 → ZW p l e R s m args below meth c D A 6 0 0 Q (w_X10_sumSets__size cA h_t a_t o_t h_p2 n_p2 o47') [(0, .ref h_t), (1, .ref (a_t 1)), (2, .ref h_p2), (3, .int k31)] 50 [] := by
          intro o47' hz
          cases hz
          obtain ⟨x48, ex48, hF⟩ := nx_e hF
          refine z_iinc (v := x48) (lv' := [(3, .int x48), (0, .ref h_t), (1, .ref (a_t 1)), (2, .ref h_p2)]) (j := 3) X dX10_sumSets_50 rfl (by rw [ex48]; rfl) (by decide) rfl ?_
          refine z_goto (tgt := 6) X dX10_sumSets_53 (by decide) ?_
          cases hF
          refine z_lv (lv' := [(0, .ref h_t), (1, .ref (a_t 1)), (2, .ref h_p2), (3, .int x48)]) [1, 2, 3, 0] rfl ?_
          exact ih o47 x48 hL
        obtain ⟨B57, hBB57, hL⟩ := zl2_b hL
        have L49 : ∀ (n : Nat) (o45 : Fn) (k46 : Int32), zl2 B57 n o45 k46 = some o47 → ZW p l e R s m args below meth c D A 6 0 0 Q (w_X10_sumSets__size cA h_t a_t o_t h_p2 n_p2 o45) [(0, .ref h_t), (1, .ref (a_t 1)), (2, .ref h_p2), (3, .int k31), (4, .int x35), (5, .int k46)] 22 [] := by
          intro n
          induction n with
          | zero => intro o45 k46 hL; cases hL
          | succ n ih =>
            intro o45 k46 hL
            obtain ⟨zz50, hF, hL⟩ := zl2_e hL
            rw [hBB57] at hF
            refine z_iload X dX10_sumSets_22 5 rfl ?_
            refine z_iload X dX10_sumSets_24 4 rfl ?_
            have hF := if_e hF
            refine z_icmp_ge (tgt := 50) X dX10_sumSets_26 (by decide) (fun c56 => ?_) (fun c56 => ?_)
            · have hF := hF.1 c56
              cases hF
              have hL := Option.some.inj hL
              refine z_lv (lv' := [(0, .ref h_t), (1, .ref (a_t 1)), (2, .ref h_p2), (3, .int k31)]) [0, 1, 2, 3] rfl ?_
              exact L49_x o45 hL
            · have hF := hF.2 c56
              refine z_aload_n X dX10_sumSets_29 rfl 2 rfl ?_
              refine z_iload X dX10_sumSets_30 4 rfl ?_
              refine z_iload X dX10_sumSets_32 5 rfl ?_
              refine z_iadd X dX10_sumSets_34 ?_
              refine z_aload_n X dX10_sumSets_35 rfl 2 rfl ?_
              refine z_iload X dX10_sumSets_36 5 rfl ?_
              obtain ⟨g51, hF⟩ := gi_e hF
              refine z_iald X 5 rfl g51 dX10_sumSets_38 ?_
              refine z_aload_n X dX10_sumSets_39 rfl 1 rfl ?_
              refine z_iload_n X dX10_sumSets_40 rfl 3 rfl ?_
              obtain ⟨g52, hF⟩ := gi_e hF
              refine z_iald X 1 rfl g52 dX10_sumSets_41 ?_
              refine z_iadd X dX10_sumSets_42 ?_
              obtain ⟨g53, hF⟩ := gi_e hF
              obtain ⟨o54, eo54, hF⟩ := nx_e hF
              refine z_iast (ws' := (w_X10_sumSets__size cA h_t a_t o_t h_p2 n_p2 o54)) X 5 rfl g53 (by rw [eo54]; rfl) dX10_sumSets_43 ?_
              obtain ⟨x55, ex55, hF⟩ := nx_e hF
              refine z_iinc (v := x55) (lv' := [(5, .int x55), (0, .ref h_t), (1, .ref (a_t 1)), (2, .ref h_p2), (3, .int k31), (4, .int x35)]) (j := 5) X dX10_sumSets_44 rfl (by rw [ex55]; rfl) (by decide) rfl ?_
              refine z_goto (tgt := 22) X dX10_sumSets_47 (by decide) ?_
              cases hF
              refine z_lv (lv' := [(0, .ref h_t), (1, .ref (a_t 1)), (2, .ref h_p2), (3, .int k31), (4, .int x35), (5, .int x55)]) [1, 2, 3, 4, 5, 0] rfl ?_
              exact ih o54 x55 hL
        refine z_lv (lv' := [(0, .ref h_t), (1, .ref (a_t 1)), (2, .ref h_p2), (3, .int k31), (4, .int x35), (5, .int (0 : Int32))]) [2, 3, 4, 5, 1, 0] rfl ?_
        exact L49 FU o30 (0 : Int32) hL
  refine z_lv (lv' := [(0, .ref h_t), (1, .ref (a_t 1)), (2, .ref h_p2), (3, .int (0 : Int32))]) [1, 2, 3, 0] rfl ?_
  exact L33 FU o2 (0 : Int32) hL
set_option maxHeartbeats 8000000 in
set_option maxRecDepth 100000 in
theorem c_X10_sumSets__price (l : Launch) (D : va_G) (cA : Nat → ClassId) (g : Nat → Nat) (sz : Nat) (h_t : Nat) (a_t : Nat → Nat) (o_t : Ob) (h_p2 n_p2 : Nat) (f_p2 : Fn)  (f_p2' : Fn) (hF : f_X10_sumSets__price o_t n_p2 f_p2 = some f_p2') : Met l yX10_sumSets wsX10_sumSets ({ frames := 0, cells := 0, slots := 0, locals := 0 }) (va_Pc [.ref h_t, .ref (a_t 2), .ref h_p2] (PreW D cA g sz (w_X10_sumSets__size cA h_t a_t o_t h_p2 n_p2 f_p2))) (va_Qv (fun (_ : Unit) => True) (PostW D cA sz (w_X10_sumSets__size cA h_t a_t o_t h_p2 n_p2 f_p2) (w_X10_sumSets__size cA h_t a_t o_t h_p2 n_p2 f_p2')) (va_A (w_X10_sumSets__size cA h_t a_t o_t h_p2 n_p2 f_p2) sz)) 0 0 (va_A (w_X10_sumSets__size cA h_t a_t o_t h_p2 n_p2 f_p2) sz) := by
  refine z_start (cc := cX10_sumSets) (maxL := 6) (ret := none) (lv0 := [(0, .ref h_t), (1, .ref (a_t 2)), (2, .ref h_p2)]) (Qc := fun sz => va_Qv (fun (_ : Unit) => True) (PostW D cA sz (w_X10_sumSets__size cA h_t a_t o_t h_p2 n_p2 f_p2) (w_X10_sumSets__size cA h_t a_t o_t h_p2 n_p2 f_p2')) (va_A (w_X10_sumSets__size cA h_t a_t o_t h_p2 n_p2 f_p2) sz)) (free := fun sz => va_A (w_X10_sumSets__size cA h_t a_t o_t h_p2 n_p2 f_p2) sz) (by decide +kernel) rfl rfl (Nat.le_of_ble_eq_true rfl) ?_
  intro p e R s m args below meth c A Q hR hA hQ X hr hin
  unfold f_X10_sumSets__price at hF
  refine z_aload_n X dX10_sumSets_0 rfl 2 rfl ?_
  refine z_iconst (v := (0 : Int32)) X dX10_sumSets_1 (by decide) ?_
  refine z_iconst (v := (0 : Int32)) X dX10_sumSets_2 (by decide) ?_
  obtain ⟨g1, hF⟩ := gi_e hF
  obtain ⟨o2, eo2, hF⟩ := nx_e hF
  refine z_iast (ws' := (w_X10_sumSets__size cA h_t a_t o_t h_p2 n_p2 o2)) X 5 rfl g1 (by rw [eo2]; rfl) dX10_sumSets_3 ?_
  refine z_iconst (v := (0 : Int32)) X dX10_sumSets_4 (by decide) ?_
  refine z_istore_n (lv' := [(3, .int (0 : Int32)), (0, .ref h_t), (1, .ref (a_t 2)), (2, .ref h_p2)]) X dX10_sumSets_5 rfl (by decide) rfl ?_
  obtain ⟨o32, hL, hF⟩ := zb1_e hF
  have L33_x : ∀ (o32' : Fn), o32' = o32 → ZW p l e R s m args below meth c D A 6 0 0 Q (w_X10_sumSets__size cA h_t a_t o_t h_p2 n_p2 o32') [] 56 [] := by
    intro o32' hz
    cases hz
    cases hF
    exact z_vret X hA hQ hr dX10_sumSets_56 (Nat.le_refl _) (Nat.le_refl _)
  obtain ⟨B59, hBB59, hL⟩ := zl2_b hL
  have L33 : ∀ (n : Nat) (o30 : Fn) (k31 : Int32), zl2 B59 n o30 k31 = some o32 → ZW p l e R s m args below meth c D A 6 0 0 Q (w_X10_sumSets__size cA h_t a_t o_t h_p2 n_p2 o30) [(0, .ref h_t), (1, .ref (a_t 2)), (2, .ref h_p2), (3, .int k31)] 6 [] := by
    intro n
    induction n with
    | zero => intro o30 k31 hL; cases hL
    | succ n ih =>
      intro o30 k31 hL
      obtain ⟨zz34, hF, hL⟩ := zl2_e hL
      rw [hBB59] at hF
      refine z_iload_n X dX10_sumSets_6 rfl 3 rfl ?_
      refine z_aload_n X dX10_sumSets_7 rfl 0 rfl ?_
      refine z_get (v := .int (o_t 0 0)) X k_X10_sumSets_24 0 rfl rfl dX10_sumSets_8 ?_
      have hF := if_e hF
      refine z_icmp_ge (tgt := 56) X dX10_sumSets_11 (by decide) (fun c58 => ?_) (fun c58 => ?_)
      · have hF := hF.1 c58
        cases hF
        have hL := Option.some.inj hL
        refine z_lv (lv' := []) [] rfl ?_
        exact L33_x o30 hL
      · have hF := hF.2 c58
        refine z_iconst (v := (1 : Int32)) X dX10_sumSets_14 (by decide) ?_
        refine z_iload_n X dX10_sumSets_15 rfl 3 rfl ?_
        refine z_ishl X dX10_sumSets_16 ?_
        obtain ⟨x35, ex35, hF⟩ := nx_e hF
        refine z_nm ex35 ?_
        refine z_istore (lv' := [(4, .int x35), (0, .ref h_t), (1, .ref (a_t 2)), (2, .ref h_p2), (3, .int k31)]) X dX10_sumSets_17 (by decide) rfl ?_
        refine z_iconst (v := (0 : Int32)) X dX10_sumSets_19 (by decide) ?_
        refine z_istore (lv' := [(5, .int (0 : Int32)), (4, .int x35), (0, .ref h_t), (1, .ref (a_t 2)), (2, .ref h_p2), (3, .int k31)]) X dX10_sumSets_20 (by decide) rfl ?_
        obtain ⟨o47, hL, hF⟩ := zb1_e hF
        have L49_x : ∀ (o47' : Fn), o47' = o47 → ZW p l e R s m args below meth c D A 6 0 0 Q (w_X10_sumSets__size cA h_t a_t o_t h_p2 n_p2 o47') [(0, .ref h_t), (1, .ref (a_t 2)), (2, .ref h_p2), (3, .int k31)] 50 [] := by
          intro o47' hz
          cases hz
          obtain ⟨x48, ex48, hF⟩ := nx_e hF
          refine z_iinc (v := x48) (lv' := [(3, .int x48), (0, .ref h_t), (1, .ref (a_t 2)), (2, .ref h_p2)]) (j := 3) X dX10_sumSets_50 rfl (by rw [ex48]; rfl) (by decide) rfl ?_
          refine z_goto (tgt := 6) X dX10_sumSets_53 (by decide) ?_
          cases hF
          refine z_lv (lv' := [(0, .ref h_t), (1, .ref (a_t 2)), (2, .ref h_p2), (3, .int x48)]) [1, 2, 3, 0] rfl ?_
          exact ih o47 x48 hL
        obtain ⟨B57, hBB57, hL⟩ := zl2_b hL
        have L49 : ∀ (n : Nat) (o45 : Fn) (k46 : Int32), zl2 B57 n o45 k46 = some o47 → ZW p l e R s m args below meth c D A 6 0 0 Q (w_X10_sumSets__size cA h_t a_t o_t h_p2 n_p2 o45) [(0, .ref h_t), (1, .ref (a_t 2)), (2, .ref h_p2), (3, .int k31), (4, .int x35), (5, .int k46)] 22 [] := by
          intro n
          induction n with
          | zero => intro o45 k46 hL; cases hL
          | succ n ih =>
            intro o45 k46 hL
            obtain ⟨zz50, hF, hL⟩ := zl2_e hL
            rw [hBB57] at hF
            refine z_iload X dX10_sumSets_22 5 rfl ?_
            refine z_iload X dX10_sumSets_24 4 rfl ?_
            have hF := if_e hF
            refine z_icmp_ge (tgt := 50) X dX10_sumSets_26 (by decide) (fun c56 => ?_) (fun c56 => ?_)
            · have hF := hF.1 c56
              cases hF
              have hL := Option.some.inj hL
              refine z_lv (lv' := [(0, .ref h_t), (1, .ref (a_t 2)), (2, .ref h_p2), (3, .int k31)]) [0, 1, 2, 3] rfl ?_
              exact L49_x o45 hL
            · have hF := hF.2 c56
              refine z_aload_n X dX10_sumSets_29 rfl 2 rfl ?_
              refine z_iload X dX10_sumSets_30 4 rfl ?_
              refine z_iload X dX10_sumSets_32 5 rfl ?_
              refine z_iadd X dX10_sumSets_34 ?_
              refine z_aload_n X dX10_sumSets_35 rfl 2 rfl ?_
              refine z_iload X dX10_sumSets_36 5 rfl ?_
              obtain ⟨g51, hF⟩ := gi_e hF
              refine z_iald X 5 rfl g51 dX10_sumSets_38 ?_
              refine z_aload_n X dX10_sumSets_39 rfl 1 rfl ?_
              refine z_iload_n X dX10_sumSets_40 rfl 3 rfl ?_
              obtain ⟨g52, hF⟩ := gi_e hF
              refine z_iald X 2 rfl g52 dX10_sumSets_41 ?_
              refine z_iadd X dX10_sumSets_42 ?_
              obtain ⟨g53, hF⟩ := gi_e hF
              obtain ⟨o54, eo54, hF⟩ := nx_e hF
              refine z_iast (ws' := (w_X10_sumSets__size cA h_t a_t o_t h_p2 n_p2 o54)) X 5 rfl g53 (by rw [eo54]; rfl) dX10_sumSets_43 ?_
              obtain ⟨x55, ex55, hF⟩ := nx_e hF
              refine z_iinc (v := x55) (lv' := [(5, .int x55), (0, .ref h_t), (1, .ref (a_t 2)), (2, .ref h_p2), (3, .int k31), (4, .int x35)]) (j := 5) X dX10_sumSets_44 rfl (by rw [ex55]; rfl) (by decide) rfl ?_
              refine z_goto (tgt := 22) X dX10_sumSets_47 (by decide) ?_
              cases hF
              refine z_lv (lv' := [(0, .ref h_t), (1, .ref (a_t 2)), (2, .ref h_p2), (3, .int k31), (4, .int x35), (5, .int x55)]) [1, 2, 3, 4, 5, 0] rfl ?_
              exact ih o54 x55 hL
        refine z_lv (lv' := [(0, .ref h_t), (1, .ref (a_t 2)), (2, .ref h_p2), (3, .int k31), (4, .int x35), (5, .int (0 : Int32))]) [2, 3, 4, 5, 1, 0] rfl ?_
        exact L49 FU o30 (0 : Int32) hL
  refine z_lv (lv' := [(0, .ref h_t), (1, .ref (a_t 2)), (2, .ref h_p2), (3, .int (0 : Int32))]) [1, 2, 3, 0] rfl ?_
  exact L33 FU o2 (0 : Int32) hL
