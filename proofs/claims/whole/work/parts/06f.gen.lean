abbrev w_X11_store (cA : Nat → ClassId) (h_t : Nat) (a_t : Nat → Nat) (o_t : Ob) (a_t_reader : Nat → Nat) (o_t_reader : Ob) (a_t_draft : Nat → Nat) (o_t_draft : Ob) (a_t_state : Nat → Nat) (o_t_state : Ob) (a_t_state_wares : Nat → Nat) (o_t_state_wares : Ob) (a_t_state_shelf : Nat → Nat) (o_t_state_shelf : Ob) (a_t_state_log : Nat → Nat) (o_t_state_log : Ob) (a_t_state_b0 : Nat → Nat) (o_t_state_b0 : Ob) (a_t_state_b1 : Nat → Nat) (o_t_state_b1 : Ob) (a_t_state_b2 : Nat → Nat) (o_t_state_b2 : Ob) (a_t_history : Nat → Nat) (o_t_history : Ob) (a_t_planner : Nat → Nat) (o_t_planner : Ob) : va_W := [(h_t, .inr (11, [.ref (a_t 0), .ref (a_t 1), .ref (a_t 2), .ref (a_t 3), .ref (a_t 4), .ref (a_t 5), .ref (a_t 6), .ref (a_t 7), .ref (a_t 8), .ref (a_t 9), .ref (a_t 10), .ref (a_t 11), .ref (a_t 12), .int (o_t 13 0), .int (o_t 14 0)])), (a_t 12, .inl (cA 0, 20, .inl (o_t 12))), ((a_t 0), .inr (6, [.ref (a_t_reader 0), .int (o_t_reader 1 0), .int (o_t_reader 2 0), .int (o_t_reader 3 0), .int (o_t_reader 4 0), .int (o_t_reader 5 0), .int (o_t_reader 6 0), .int (o_t_reader 7 0), .ref (a_t_reader 8), .int (o_t_reader 9 0), .int (o_t_reader 10 0), .ref (a_t_reader 11), .ref (a_t_reader 12), .int (o_t_reader 13 0), .int (o_t_reader 14 0), .int (o_t_reader 15 0), .int (o_t_reader 16 0)])), (a_t_reader 0, .inl (cA 0, 440, .inl (o_t_reader 0))), (a_t_reader 8, .inl (cA 0, 40, .inl (o_t_reader 8))), (a_t_reader 11, .inl (cA 0, 2, .inl (o_t_reader 11))), (a_t_reader 12, .inl (cA 0, 2, .inl (o_t_reader 12))), ((a_t 1), .inr (10, [.int (o_t_draft 0 0), .ref (a_t_draft 1), .ref (a_t_draft 2), .ref (a_t_draft 3), .ref (a_t_draft 4)])), (a_t_draft 1, .inl (cA 0, 8, .inl (o_t_draft 1))), (a_t_draft 2, .inl (cA 0, 8, .inl (o_t_draft 2))), (a_t_draft 3, .inl (cA 0, 8, .inl (o_t_draft 3))), (a_t_draft 4, .inl (cA 0, 8, .inl (o_t_draft 4))), ((a_t 2), .inr (9, [.ref (a_t_state 0), .ref (a_t_state 1), .ref (a_t_state 2), .ref (a_t_state 3), .int (o_t_state 4 0), .int (o_t_state 5 0), .int (o_t_state 6 0)])), (a_t_state 3, .inl (cA 4, 3, .inr (.inr (.inr (.inr (bk (a_t_state 20) (a_t_state 21) (a_t_state 22))))))), ((a_t_state 0), .inr (10, [.int (o_t_state_wares 0 0), .ref (a_t_state_wares 1), .ref (a_t_state_wares 2), .ref (a_t_state_wares 3), .ref (a_t_state_wares 4)])), (a_t_state_wares 1, .inl (cA 0, 8, .inl (o_t_state_wares 1))), (a_t_state_wares 2, .inl (cA 0, 8, .inl (o_t_state_wares 2))), (a_t_state_wares 3, .inl (cA 0, 8, .inl (o_t_state_wares 3))), (a_t_state_wares 4, .inl (cA 0, 8, .inl (o_t_state_wares 4))), ((a_t_state 1), .inr (8, [.int (o_t_state_shelf 0 0), .int (o_t_state_shelf 1 0), .int (o_t_state_shelf 2 0), .int (o_t_state_shelf 3 0), .ref (a_t_state_shelf 4), .ref (a_t_state_shelf 5), .ref (a_t_state_shelf 6)])), (a_t_state_shelf 4, .inl (cA 0, 8, .inl (o_t_state_shelf 4))), (a_t_state_shelf 5, .inl (cA 0, 8, .inl (o_t_state_shelf 5))), (a_t_state_shelf 6, .inl (cA 1, 8, .inr (.inr (.inl (fun j => (o_t_state_shelf 6 j).toUInt32))))), ((a_t_state 2), .inr (4, [.int (o_t_state_log 0 0), .ref (a_t_state_log 1), .ref (a_t_state_log 2), .ref (a_t_state_log 3), .ref (a_t_state_log 4)])), (a_t_state_log 1, .inl (cA 0, 40, .inl (o_t_state_log 1))), (a_t_state_log 2, .inl (cA 0, 40, .inl (o_t_state_log 2))), (a_t_state_log 3, .inl (cA 0, 40, .inl (o_t_state_log 3))), (a_t_state_log 4, .inl (cA 0, 320, .inl (o_t_state_log 4))), ((a_t_state 20), .inr (0, [.int (o_t_state_b0 0 0), .int (o_t_state_b0 1 0), .int (o_t_state_b0 2 0), .int (o_t_state_b0 3 0), .int (o_t_state_b0 4 0), .int (o_t_state_b0 5 0), .int (o_t_state_b0 6 0), .ref (a_t_state_b0 7), .ref (a_t_state_b0 8), .ref (a_t_state_b0 9)])), (a_t_state_b0 7, .inl (cA 0, 30, .inl (o_t_state_b0 7))), (a_t_state_b0 8, .inl (cA 0, 30, .inl (o_t_state_b0 8))), (a_t_state_b0 9, .inl (cA 0, 30, .inl (o_t_state_b0 9))), ((a_t_state 21), .inr (0, [.int (o_t_state_b1 0 0), .int (o_t_state_b1 1 0), .int (o_t_state_b1 2 0), .int (o_t_state_b1 3 0), .int (o_t_state_b1 4 0), .int (o_t_state_b1 5 0), .int (o_t_state_b1 6 0), .ref (a_t_state_b1 7), .ref (a_t_state_b1 8), .ref (a_t_state_b1 9)])), (a_t_state_b1 7, .inl (cA 0, 30, .inl (o_t_state_b1 7))), (a_t_state_b1 8, .inl (cA 0, 30, .inl (o_t_state_b1 8))), (a_t_state_b1 9, .inl (cA 0, 30, .inl (o_t_state_b1 9))), ((a_t_state 22), .inr (0, [.int (o_t_state_b2 0 0), .int (o_t_state_b2 1 0), .int (o_t_state_b2 2 0), .int (o_t_state_b2 3 0), .int (o_t_state_b2 4 0), .int (o_t_state_b2 5 0), .int (o_t_state_b2 6 0), .ref (a_t_state_b2 7), .ref (a_t_state_b2 8), .ref (a_t_state_b2 9)])), (a_t_state_b2 7, .inl (cA 0, 30, .inl (o_t_state_b2 7))), (a_t_state_b2 8, .inl (cA 0, 30, .inl (o_t_state_b2 8))), (a_t_state_b2 9, .inl (cA 0, 30, .inl (o_t_state_b2 9))), ((a_t 3), .inr (3, [.ref (a_t_history 0), .int (o_t_history 1 0), .int (o_t_history 2 0)])), ((a_t 8), .inr (5, [.int (o_t_planner 0 0), .ref (a_t_planner 1), .ref (a_t_planner 2), .ref (a_t_planner 3), .ref (a_t_planner 4), .int (o_t_planner 5 0), .int (o_t_planner 6 0), .int (o_t_planner 7 0), .int (o_t_planner 8 0), .ref (a_t_planner 9)])), (a_t_planner 1, .inl (cA 0, 10496, .inl (o_t_planner 1))), (a_t_planner 2, .inl (cA 0, 256, .inl (o_t_planner 2))), (a_t_planner 3, .inl (cA 0, 256, .inl (o_t_planner 3))), (a_t_planner 4, .inl (cA 0, 256, .inl (o_t_planner 4))), (a_t_planner 9, .inl (cA 0, 40, .inl (o_t_planner 9)))]
set_option maxRecDepth 20000 in
theorem h_X11_store_X11 : ∀ w ∈ wsX110, w ∈ wsX11_store := by decide +kernel
set_option maxRecDepth 20000 in
theorem k_X11_store_10 : ZF wsX11_store RX11 10 11 0 RX11 TX11 15 := ⟨rfl, by decide, h_X11_store_X11, by decide +kernel⟩
set_option maxRecDepth 20000 in
theorem k_X11_store_19 : ZF wsX11_store RX11 19 11 1 RX11 TX11 15 := ⟨rfl, by decide, h_X11_store_X11, by decide +kernel⟩
set_option maxRecDepth 20000 in
theorem k_X11_store_26 : ZF wsX11_store RX11 26 11 2 RX11 TX11 15 := ⟨rfl, by decide, h_X11_store_X11, by decide +kernel⟩
set_option maxRecDepth 20000 in
theorem k_X11_store_33 : ZF wsX11_store RX11 33 11 3 RX11 TX11 15 := ⟨rfl, by decide, h_X11_store_X11, by decide +kernel⟩
set_option maxRecDepth 20000 in
theorem k_X11_store_67 : ZF wsX11_store RX11 67 11 8 RX11 TX11 15 := ⟨rfl, by decide, h_X11_store_X11, by decide +kernel⟩
set_option maxRecDepth 20000 in
theorem h_X11_store_X6 : ∀ w ∈ wsX60, w ∈ wsX11_store := by decide +kernel
set_option maxRecDepth 20000 in
theorem k_X11_store_96 : ZF wsX11_store RX11 96 6 1 RX6 TX6 17 := ⟨rfl, by decide, h_X11_store_X6, by decide +kernel⟩
set_option maxRecDepth 20000 in
theorem k_X11_store_104 : ZF wsX11_store RX11 104 6 3 RX6 TX6 17 := ⟨rfl, by decide, h_X11_store_X6, by decide +kernel⟩
set_option maxRecDepth 20000 in
theorem k_X11_store_107 : ZF wsX11_store RX11 107 6 4 RX6 TX6 17 := ⟨rfl, by decide, h_X11_store_X6, by decide +kernel⟩
set_option maxRecDepth 20000 in
theorem k_X11_store_110 : ZF wsX11_store RX11 110 6 5 RX6 TX6 17 := ⟨rfl, by decide, h_X11_store_X6, by decide +kernel⟩
set_option maxRecDepth 20000 in
theorem h_X11_store_X10 : ∀ w ∈ wsX100, w ∈ wsX11_store := by decide +kernel
set_option maxRecDepth 20000 in
theorem k_X11_store_121 : ZF wsX11_store RX11 121 10 0 RX10 TX10 5 := ⟨rfl, by decide, h_X11_store_X10, by decide +kernel⟩
set_option maxHeartbeats 8000000 in
set_option maxRecDepth 100000 in
theorem c_X11_store (l : Launch) (D : va_G) (cA : Nat → ClassId) (g : Nat → Nat) (sz : Nat) (h_t : Nat) (a_t : Nat → Nat) (o_t : Ob) (a_t_reader : Nat → Nat) (o_t_reader : Ob) (a_t_draft : Nat → Nat) (o_t_draft : Ob) (a_t_state : Nat → Nat) (o_t_state : Ob) (a_t_state_wares : Nat → Nat) (o_t_state_wares : Ob) (a_t_state_shelf : Nat → Nat) (o_t_state_shelf : Ob) (a_t_state_log : Nat → Nat) (o_t_state_log : Ob) (a_t_state_b0 : Nat → Nat) (o_t_state_b0 : Ob) (a_t_state_b1 : Nat → Nat) (o_t_state_b1 : Ob) (a_t_state_b2 : Nat → Nat) (o_t_state_b2 : Ob) (a_t_history : Nat → Nat) (o_t_history : Ob) (a_t_planner : Nat → Nat) (o_t_planner : Ob)  (o_t_reader' : Ob) (o_t_draft' : Ob) (o_t_state' : Ob) (o_t_state_wares' : Ob) (o_t_state_shelf' : Ob) (o_t_state_log' : Ob) (o_t_state_b0' : Ob) (o_t_state_b1' : Ob) (o_t_state_b2' : Ob) (o_t_history' : Ob) (o_t_planner' : Ob) (rv : Int32) (hF : f_X11_store o_t_reader o_t_draft o_t_state o_t_state_wares o_t_state_shelf o_t_state_log o_t_state_b0 o_t_state_b1 o_t_state_b2 o_t_history o_t_planner = some (o_t_reader', o_t_draft', o_t_state', o_t_state_wares', o_t_state_shelf', o_t_state_log', o_t_state_b0', o_t_state_b1', o_t_state_b2', o_t_history', o_t_planner', rv)) : Met l yX11_store wsX11_store ({ frames := 9, cells := 0, slots := 0, locals := 192 }) (va_Pc [.ref h_t] (PreW D cA g sz (w_X11_store cA h_t a_t o_t a_t_reader o_t_reader a_t_draft o_t_draft a_t_state o_t_state a_t_state_wares o_t_state_wares a_t_state_shelf o_t_state_shelf a_t_state_log o_t_state_log a_t_state_b0 o_t_state_b0 a_t_state_b1 o_t_state_b1 a_t_state_b2 o_t_state_b2 a_t_history o_t_history a_t_planner o_t_planner))) (va_Qi (fun (r : Int32) (_ : Unit) => r = rv) (PostW D cA sz (w_X11_store cA h_t a_t o_t a_t_reader o_t_reader a_t_draft o_t_draft a_t_state o_t_state a_t_state_wares o_t_state_wares a_t_state_shelf o_t_state_shelf a_t_state_log o_t_state_log a_t_state_b0 o_t_state_b0 a_t_state_b1 o_t_state_b1 a_t_state_b2 o_t_state_b2 a_t_history o_t_history a_t_planner o_t_planner) (w_X11_store cA h_t a_t o_t a_t_reader o_t_reader' a_t_draft o_t_draft' a_t_state o_t_state' a_t_state_wares o_t_state_wares' a_t_state_shelf o_t_state_shelf' a_t_state_log o_t_state_log' a_t_state_b0 o_t_state_b0' a_t_state_b1 o_t_state_b1' a_t_state_b2 o_t_state_b2' a_t_history o_t_history' a_t_planner o_t_planner')) (va_A (w_X11_store cA h_t a_t o_t a_t_reader o_t_reader a_t_draft o_t_draft a_t_state o_t_state a_t_state_wares o_t_state_wares a_t_state_shelf o_t_state_shelf a_t_state_log o_t_state_log a_t_state_b0 o_t_state_b0 a_t_state_b1 o_t_state_b1 a_t_state_b2 o_t_state_b2 a_t_history o_t_history a_t_planner o_t_planner) sz)) 0 0 (va_A (w_X11_store cA h_t a_t o_t a_t_reader o_t_reader a_t_draft o_t_draft a_t_state o_t_state a_t_state_wares o_t_state_wares a_t_state_shelf o_t_state_shelf a_t_state_log o_t_state_log a_t_state_b0 o_t_state_b0 a_t_state_b1 o_t_state_b1 a_t_state_b2 o_t_state_b2 a_t_history o_t_history a_t_planner o_t_planner) sz) := by
  refine z_start (cc := cX11_store) (maxL := 2) (ret := (some .int)) (lv0 := [(0, .ref h_t)]) (Qc := fun sz => va_Qi (fun (r : Int32) (_ : Unit) => r = rv) (PostW D cA sz (w_X11_store cA h_t a_t o_t a_t_reader o_t_reader a_t_draft o_t_draft a_t_state o_t_state a_t_state_wares o_t_state_wares a_t_state_shelf o_t_state_shelf a_t_state_log o_t_state_log a_t_state_b0 o_t_state_b0 a_t_state_b1 o_t_state_b1 a_t_state_b2 o_t_state_b2 a_t_history o_t_history a_t_planner o_t_planner) (w_X11_store cA h_t a_t o_t a_t_reader o_t_reader' a_t_draft o_t_draft' a_t_state o_t_state' a_t_state_wares o_t_state_wares' a_t_state_shelf o_t_state_shelf' a_t_state_log o_t_state_log' a_t_state_b0 o_t_state_b0' a_t_state_b1 o_t_state_b1' a_t_state_b2 o_t_state_b2' a_t_history o_t_history' a_t_planner o_t_planner')) (va_A (w_X11_store cA h_t a_t o_t a_t_reader o_t_reader a_t_draft o_t_draft a_t_state o_t_state a_t_state_wares o_t_state_wares a_t_state_shelf o_t_state_shelf a_t_state_log o_t_state_log a_t_state_b0 o_t_state_b0 a_t_state_b1 o_t_state_b1 a_t_state_b2 o_t_state_b2 a_t_history o_t_history a_t_planner o_t_planner) sz)) (free := fun sz => va_A (w_X11_store cA h_t a_t o_t a_t_reader o_t_reader a_t_draft o_t_draft a_t_state o_t_state a_t_state_wares o_t_state_wares a_t_state_shelf o_t_state_shelf a_t_state_log o_t_state_log a_t_state_b0 o_t_state_b0 a_t_state_b1 o_t_state_b1 a_t_state_b2 o_t_state_b2 a_t_history o_t_history a_t_planner o_t_planner) sz) (by decide +kernel) rfl rfl (Nat.le_of_ble_eq_true rfl) ?_
  intro p e R s m args below meth c A Q hR hA hQ X hr hin
  unfold f_X11_store at hF
  refine z_aload_n X dX11_store_0 rfl 0 rfl ?_
  refine z_get (v := .ref (a_t 0)) X k_X11_store_10 0 rfl rfl dX11_store_1 ?_
  refine z_aload_n X dX11_store_4 rfl 0 rfl ?_
  refine z_get (v := .ref (a_t 1)) X k_X11_store_19 0 rfl rfl dX11_store_5 ?_
  obtain ⟨o1, o2, r3, hc4, hF⟩ := zb3_e hF
  refine z_Vi (As := [.ref (a_t 1)]) (rest := []) (wc := (w_X6_readItem cA (a_t 0) a_t_reader o_t_reader (a_t 1) a_t_draft o_t_draft)) (wc' := (w_X6_readItem cA (a_t 0) a_t_reader o1 (a_t 1) a_t_draft o2)) (ws' := (w_X11_store cA h_t a_t o_t a_t_reader o1 a_t_draft o2 a_t_state o_t_state a_t_state_wares o_t_state_wares a_t_state_shelf o_t_state_shelf a_t_state_log o_t_state_log a_t_state_b0 o_t_state_b0 a_t_state_b1 o_t_state_b1 a_t_state_b2 o_t_state_b2 a_t_history o_t_history a_t_planner o_t_planner)) (rv := r3) X (cwV 1 X.2.2.2.2.1 gX11_store_X6_readStore rfl rfl rfl (by decide +kernel) (by rw [hR]; exact ⟨Nat.le_of_ble_eq_true rfl, Nat.le_of_ble_eq_true rfl⟩)) (fun sz => c_X6_readStore l D cA g sz (a_t 0) a_t_reader o_t_reader (a_t 1) a_t_draft o_t_draft o1 o2 r3 hc4) [2, 3, 4, 5, 6, 7, 8, 9, 10, 11] [0, 1, 1000, 1001, 1002, 1003, 1004, 1005, 1006, 1007, 1008, 1009, 12, 13, 14, 15, 16, 17, 18, 19, 20, 21, 22, 23, 24, 25, 26, 27, 28, 29, 30, 31, 32, 33, 34, 35, 36, 37, 38, 39, 40, 41, 42, 43, 44, 45, 46] rfl (by decide) rfl (by decide) rfl rfl rfl rfl rfl rfl (Nat.le_of_ble_eq_true rfl) dX11_store_8 ⟨Nat.zero_le _, Nat.zero_le _⟩ ?_
  refine z_istore_n (lv' := [(1, .int r3), (0, .ref h_t)]) X dX11_store_11 rfl (by decide) rfl ?_
  refine z_aload_n X dX11_store_12 rfl 1 rfl ?_
  refine z_get (v := .ref (a_t 0)) X k_X11_store_10 0 rfl rfl dX11_store_13 ?_
  refine z_iconst (v := (0 : Int32)) X dX11_store_16 (by decide) ?_
  obtain ⟨o5, eo5, hF⟩ := nx_e hF
  refine z_put (ws' := (w_X11_store cA h_t a_t o_t a_t_reader o5 a_t_draft o2 a_t_state o_t_state a_t_state_wares o_t_state_wares a_t_state_shelf o_t_state_shelf a_t_state_log o_t_state_log a_t_state_b0 o_t_state_b0 a_t_state_b1 o_t_state_b1 a_t_state_b2 o_t_state_b2 a_t_history o_t_history a_t_planner o_t_planner)) X k_X11_store_96 tyX6 tyX6_ok nmX6 rfl rfl 2 rfl (Nat.le_of_ble_eq_true rfl) (by rw [eo5]; rfl) dX11_store_17 ?_
  refine z_iload_n X dX11_store_20 rfl 0 rfl ?_
  have hF := if_e hF
  refine z_if_ne (tgt := 36) X dX11_store_21 (by decide) (fun c18 => ?_) (fun c18 => ?_)
  · have hF := hF.2 c18
    refine z_aload_n X dX11_store_36 rfl 1 rfl ?_
    refine z_get (v := .ref (a_t 2)) X k_X11_store_26 0 rfl rfl dX11_store_37 ?_
    refine z_aload_n X dX11_store_40 rfl 1 rfl ?_
    refine z_get (v := .ref (a_t 1)) X k_X11_store_19 0 rfl rfl dX11_store_41 ?_
    refine z_aload_n X dX11_store_44 rfl 1 rfl ?_
    refine z_get (v := .ref (a_t 0)) X k_X11_store_10 0 rfl rfl dX11_store_45 ?_
    refine z_get (v := .int (o5 4 0)) X k_X11_store_107 2 rfl rfl dX11_store_48 ?_
    refine z_aload_n X dX11_store_51 rfl 1 rfl ?_
    refine z_get (v := .ref (a_t 0)) X k_X11_store_10 0 rfl rfl dX11_store_52 ?_
    refine z_get (v := .int (o5 5 0)) X k_X11_store_110 2 rfl rfl dX11_store_55 ?_
    obtain ⟨o6, o7, o8, o9, o10, o11, o12, hc13, hF⟩ := zb7_e hF
    refine z_Vv (As := [.ref (a_t 1), .int (o5 4 0), .int (o5 5 0)]) (rest := []) (wc := (w_X9_begin cA (a_t 2) a_t_state o_t_state a_t_state_wares o_t_state_wares a_t_state_shelf o_t_state_shelf a_t_state_log o_t_state_log a_t_state_b0 o_t_state_b0 a_t_state_b1 o_t_state_b1 a_t_state_b2 o_t_state_b2 (a_t 1) a_t_draft o2)) (wc' := (w_X9_begin cA (a_t 2) a_t_state o6 a_t_state_wares o7 a_t_state_shelf o8 a_t_state_log o9 a_t_state_b0 o10 a_t_state_b1 o11 a_t_state_b2 o12 (a_t 1) a_t_draft o2)) (ws' := (w_X11_store cA h_t a_t o_t a_t_reader o5 a_t_draft o2 a_t_state o6 a_t_state_wares o7 a_t_state_shelf o8 a_t_state_log o9 a_t_state_b0 o10 a_t_state_b1 o11 a_t_state_b2 o12 a_t_history o_t_history a_t_planner o_t_planner)) X (cwV 3 X.2.2.2.2.1 gX11_store_X9_begin rfl rfl rfl (by decide +kernel) (by rw [hR]; exact ⟨Nat.le_of_ble_eq_true rfl, Nat.le_of_ble_eq_true rfl⟩)) (fun sz => c_X9_begin l D cA g sz (a_t 2) a_t_state o_t_state a_t_state_wares o_t_state_wares a_t_state_shelf o_t_state_shelf a_t_state_log o_t_state_log a_t_state_b0 o_t_state_b0 a_t_state_b1 o_t_state_b1 a_t_state_b2 o_t_state_b2 (a_t 1) a_t_draft o2 (o5 4 0) (o5 5 0) o6 o7 o8 o9 o10 o11 o12 hc13) [12, 13, 14, 15, 16, 17, 18, 19, 20, 21, 22, 23, 24, 25, 26, 27, 28, 29, 30, 31, 32, 33, 34, 35, 36, 37, 38, 39, 7, 8, 9, 10, 11] [0, 1, 2, 3, 4, 5, 6, 1028, 1029, 1030, 1031, 1032, 1000, 1001, 1002, 1003, 1004, 1005, 1006, 1007, 1008, 1009, 1010, 1011, 1012, 1013, 1014, 1015, 1016, 1017, 1018, 1019, 1020, 1021, 1022, 1023, 1024, 1025, 1026, 1027, 40, 41, 42, 43, 44, 45, 46] rfl (by decide) rfl (by decide) rfl rfl rfl rfl rfl rfl (Nat.le_of_ble_eq_true rfl) dX11_store_58 ⟨Nat.zero_le _, Nat.zero_le _⟩ ?_
    refine z_aload_n X dX11_store_61 rfl 1 rfl ?_
    refine z_get (v := .ref (a_t 3)) X k_X11_store_33 0 rfl rfl dX11_store_62 ?_
    obtain ⟨o14, hc15, hF⟩ := zb1_e hF
    refine z_Vv (As := []) (rest := []) (wc := (w_X3_place cA (a_t 3) a_t_history o_t_history)) (wc' := (w_X3_place cA (a_t 3) a_t_history o14)) (ws' := (w_X11_store cA h_t a_t o_t a_t_reader o5 a_t_draft o2 a_t_state o6 a_t_state_wares o7 a_t_state_shelf o8 a_t_state_log o9 a_t_state_b0 o10 a_t_state_b1 o11 a_t_state_b2 o12 a_t_history o14 a_t_planner o_t_planner)) X (cwV 0 X.2.2.2.2.1 gX11_store_X3_forget rfl rfl rfl (by decide +kernel) (by rw [hR]; exact ⟨Nat.le_of_ble_eq_true rfl, Nat.le_of_ble_eq_true rfl⟩)) (fun sz => c_X3_forget l D cA g sz (a_t 3) a_t_history o_t_history o14 hc15) [40] [0, 1, 2, 3, 4, 5, 6, 7, 8, 9, 10, 11, 12, 13, 14, 15, 16, 17, 18, 19, 20, 21, 22, 23, 24, 25, 26, 27, 28, 29, 30, 31, 32, 33, 34, 35, 36, 37, 38, 39, 1000, 41, 42, 43, 44, 45, 46] rfl (by decide) rfl (by decide) rfl rfl rfl rfl rfl rfl (Nat.le_of_ble_eq_true rfl) dX11_store_65 ⟨Nat.zero_le _, Nat.zero_le _⟩ ?_
    refine z_aload_n X dX11_store_68 rfl 1 rfl ?_
    refine z_get (v := .ref (a_t 8)) X k_X11_store_67 0 rfl rfl dX11_store_69 ?_
    obtain ⟨o16, hc17, hF⟩ := zb1_e hF
    refine z_Vv (As := []) (rest := []) (wc := (w_X5_forget cA (a_t 8) a_t_planner 10496 o_t_planner)) (wc' := (w_X5_forget cA (a_t 8) a_t_planner 10496 o16)) (ws' := (w_X11_store cA h_t a_t o_t a_t_reader o5 a_t_draft o2 a_t_state o6 a_t_state_wares o7 a_t_state_shelf o8 a_t_state_log o9 a_t_state_b0 o10 a_t_state_b1 o11 a_t_state_b2 o12 a_t_history o14 a_t_planner o16)) X (cwV 0 X.2.2.2.2.1 gX11_store_X5_forget rfl rfl rfl (by decide +kernel) (by rw [hR]; exact ⟨Nat.le_of_ble_eq_true rfl, Nat.le_of_ble_eq_true rfl⟩)) (fun sz => c_X5_forget l D cA g sz (a_t 8) a_t_planner 10496 o_t_planner o16 hc17) [41, 42, 43, 44, 45, 46] [0, 1, 2, 3, 4, 5, 6, 7, 8, 9, 10, 11, 12, 13, 14, 15, 16, 17, 18, 19, 20, 21, 22, 23, 24, 25, 26, 27, 28, 29, 30, 31, 32, 33, 34, 35, 36, 37, 38, 39, 40, 1000, 1001, 1002, 1003, 1004, 1005] rfl (by decide) rfl (by decide) rfl rfl rfl rfl rfl rfl (Nat.le_of_ble_eq_true rfl) dX11_store_72 ⟨Nat.zero_le _, Nat.zero_le _⟩ ?_
    refine z_aload_n X dX11_store_75 rfl 1 rfl ?_
    refine z_get (v := .ref (a_t 1)) X k_X11_store_19 0 rfl rfl dX11_store_76 ?_
    refine z_get (v := .int (o2 0 0)) X k_X11_store_121 7 rfl rfl dX11_store_79 ?_
    cases hF
    exact z_iret X hA hQ hr rfl dX11_store_82 (Nat.le_refl _) (Nat.le_refl _)
  · have hF := hF.1 c18
    refine z_sipush (v := (-1000 : Int32)) X dX11_store_24 (by decide) ?_
    refine z_aload_n X dX11_store_27 rfl 1 rfl ?_
    refine z_get (v := .ref (a_t 0)) X k_X11_store_10 0 rfl rfl dX11_store_28 ?_
    refine z_get (v := .int (o5 3 0)) X k_X11_store_104 2 rfl rfl dX11_store_31 ?_
    refine z_isub X dX11_store_34 ?_
    cases hF
    exact z_iret X hA hQ hr rfl dX11_store_35 (Nat.le_refl _) (Nat.le_refl _)
set_option maxRecDepth 20000 in
theorem h_X11_fault_X11 : ∀ w ∈ wsX110, w ∈ wsX11_fault := by decide +kernel
set_option maxRecDepth 20000 in
theorem k_X11_fault_10 : ZF wsX11_fault RX11 10 11 0 RX11 TX11 15 := ⟨rfl, by decide, h_X11_fault_X11, by decide +kernel⟩
set_option maxRecDepth 20000 in
theorem h_X11_fault_X6 : ∀ w ∈ wsX60, w ∈ wsX11_fault := by decide +kernel
set_option maxRecDepth 20000 in
theorem k_X11_fault_124 : ZF wsX11_fault RX11 124 6 2 RX6 TX6 17 := ⟨rfl, by decide, h_X11_fault_X6, by decide +kernel⟩
set_option maxHeartbeats 8000000 in
set_option maxRecDepth 100000 in
theorem c_X11_fault (l : Launch) (D : va_G) (cA : Nat → ClassId) (g : Nat → Nat) (sz : Nat) (h_t : Nat) (a_t : Nat → Nat) (o_t : Ob) (a_t_reader : Nat → Nat) (o_t_reader : Ob)  (rv : Int32) (hF : f_X11_fault o_t_reader = some rv) : Met l yX11_fault wsX11_fault ({ frames := 0, cells := 0, slots := 0, locals := 0 }) (va_Pc [.ref h_t] (PreW D cA g sz (w_X11_feed cA h_t a_t o_t a_t_reader o_t_reader))) (va_Qi (fun (r : Int32) (_ : Unit) => r = rv) (PostW D cA sz (w_X11_feed cA h_t a_t o_t a_t_reader o_t_reader) (w_X11_feed cA h_t a_t o_t a_t_reader o_t_reader)) (va_A (w_X11_feed cA h_t a_t o_t a_t_reader o_t_reader) sz)) 0 0 (va_A (w_X11_feed cA h_t a_t o_t a_t_reader o_t_reader) sz) := by
  refine z_start (cc := cX11_fault) (maxL := 1) (ret := (some .int)) (lv0 := [(0, .ref h_t)]) (Qc := fun sz => va_Qi (fun (r : Int32) (_ : Unit) => r = rv) (PostW D cA sz (w_X11_feed cA h_t a_t o_t a_t_reader o_t_reader) (w_X11_feed cA h_t a_t o_t a_t_reader o_t_reader)) (va_A (w_X11_feed cA h_t a_t o_t a_t_reader o_t_reader) sz)) (free := fun sz => va_A (w_X11_feed cA h_t a_t o_t a_t_reader o_t_reader) sz) (by decide +kernel) rfl rfl (Nat.le_of_ble_eq_true rfl) ?_
  intro p e R s m args below meth c A Q hR hA hQ X hr hin
  unfold f_X11_fault at hF
  refine z_aload_n X dX11_fault_0 rfl 0 rfl ?_
  refine z_get (v := .ref (a_t 0)) X k_X11_fault_10 0 rfl rfl dX11_fault_1 ?_
  refine z_get (v := .int (o_t_reader 2 0)) X k_X11_fault_124 2 rfl rfl dX11_fault_4 ?_
  cases hF
  exact z_iret X hA hQ hr rfl dX11_fault_7 (Nat.le_refl _) (Nat.le_refl _)
abbrev w_X11_now (cA : Nat → ClassId) (h_t : Nat) (a_t : Nat → Nat) (o_t : Ob) (a_t_reader : Nat → Nat) (o_t_reader : Ob) (a_t_state : Nat → Nat) (o_t_state : Ob) (a_t_state_wares : Nat → Nat) (o_t_state_wares : Ob) (a_t_state_shelf : Nat → Nat) (o_t_state_shelf : Ob) (a_t_state_log : Nat → Nat) (o_t_state_log : Ob) : va_W := [(h_t, .inr (11, [.ref (a_t 0), .ref (a_t 1), .ref (a_t 2), .ref (a_t 3), .ref (a_t 4), .ref (a_t 5), .ref (a_t 6), .ref (a_t 7), .ref (a_t 8), .ref (a_t 9), .ref (a_t 10), .ref (a_t 11), .ref (a_t 12), .int (o_t 13 0), .int (o_t 14 0)])), (a_t 12, .inl (cA 0, 20, .inl (o_t 12))), ((a_t 0), .inr (6, [.ref (a_t_reader 0), .int (o_t_reader 1 0), .int (o_t_reader 2 0), .int (o_t_reader 3 0), .int (o_t_reader 4 0), .int (o_t_reader 5 0), .int (o_t_reader 6 0), .int (o_t_reader 7 0), .ref (a_t_reader 8), .int (o_t_reader 9 0), .int (o_t_reader 10 0), .ref (a_t_reader 11), .ref (a_t_reader 12), .int (o_t_reader 13 0), .int (o_t_reader 14 0), .int (o_t_reader 15 0), .int (o_t_reader 16 0)])), (a_t_reader 0, .inl (cA 0, 440, .inl (o_t_reader 0))), (a_t_reader 8, .inl (cA 0, 40, .inl (o_t_reader 8))), (a_t_reader 11, .inl (cA 0, 2, .inl (o_t_reader 11))), (a_t_reader 12, .inl (cA 0, 2, .inl (o_t_reader 12))), ((a_t 2), .inr (9, [.ref (a_t_state 0), .ref (a_t_state 1), .ref (a_t_state 2), .ref (a_t_state 3), .int (o_t_state 4 0), .int (o_t_state 5 0), .int (o_t_state 6 0)])), (a_t_state 3, .inl (cA 4, 3, .inr (.inr (.inr (.inr (bk (a_t_state 20) (a_t_state 21) (a_t_state 22))))))), ((a_t_state 0), .inr (10, [.int (o_t_state_wares 0 0), .ref (a_t_state_wares 1), .ref (a_t_state_wares 2), .ref (a_t_state_wares 3), .ref (a_t_state_wares 4)])), (a_t_state_wares 1, .inl (cA 0, 8, .inl (o_t_state_wares 1))), (a_t_state_wares 2, .inl (cA 0, 8, .inl (o_t_state_wares 2))), (a_t_state_wares 3, .inl (cA 0, 8, .inl (o_t_state_wares 3))), (a_t_state_wares 4, .inl (cA 0, 8, .inl (o_t_state_wares 4))), ((a_t_state 1), .inr (8, [.int (o_t_state_shelf 0 0), .int (o_t_state_shelf 1 0), .int (o_t_state_shelf 2 0), .int (o_t_state_shelf 3 0), .ref (a_t_state_shelf 4), .ref (a_t_state_shelf 5), .ref (a_t_state_shelf 6)])), (a_t_state_shelf 4, .inl (cA 0, 8, .inl (o_t_state_shelf 4))), (a_t_state_shelf 5, .inl (cA 0, 8, .inl (o_t_state_shelf 5))), (a_t_state_shelf 6, .inl (cA 1, 8, .inr (.inr (.inl (fun j => (o_t_state_shelf 6 j).toUInt32))))), ((a_t_state 2), .inr (4, [.int (o_t_state_log 0 0), .ref (a_t_state_log 1), .ref (a_t_state_log 2), .ref (a_t_state_log 3), .ref (a_t_state_log 4)])), (a_t_state_log 1, .inl (cA 0, 40, .inl (o_t_state_log 1))), (a_t_state_log 2, .inl (cA 0, 40, .inl (o_t_state_log 2))), (a_t_state_log 3, .inl (cA 0, 40, .inl (o_t_state_log 3))), (a_t_state_log 4, .inl (cA 0, 320, .inl (o_t_state_log 4)))]
set_option maxRecDepth 20000 in
theorem h_X11_now_X11 : ∀ w ∈ wsX110, w ∈ wsX11_now := by decide +kernel
set_option maxRecDepth 20000 in
theorem k_X11_now_10 : ZF wsX11_now RX11 10 11 0 RX11 TX11 15 := ⟨rfl, by decide, h_X11_now_X11, by decide +kernel⟩
set_option maxRecDepth 20000 in
theorem k_X11_now_26 : ZF wsX11_now RX11 26 11 2 RX11 TX11 15 := ⟨rfl, by decide, h_X11_now_X11, by decide +kernel⟩
set_option maxRecDepth 20000 in
theorem h_X11_now_X6 : ∀ w ∈ wsX60, w ∈ wsX11_now := by decide +kernel
set_option maxRecDepth 20000 in
theorem k_X11_now_96 : ZF wsX11_now RX11 96 6 1 RX6 TX6 17 := ⟨rfl, by decide, h_X11_now_X6, by decide +kernel⟩
set_option maxRecDepth 20000 in
theorem h_X11_now_X10 : ∀ w ∈ wsX100, w ∈ wsX11_now := by decide +kernel
set_option maxRecDepth 20000 in
theorem k_X11_now_121 : ZF wsX11_now RX11 121 10 0 RX10 TX10 5 := ⟨rfl, by decide, h_X11_now_X10, by decide +kernel⟩
set_option maxRecDepth 20000 in
theorem h_X11_now_X9 : ∀ w ∈ wsX90, w ∈ wsX11_now := by decide +kernel
set_option maxRecDepth 20000 in
theorem k_X11_now_127 : ZF wsX11_now RX11 127 9 0 RX9 TX9 7 := ⟨rfl, by decide, h_X11_now_X9, by decide +kernel⟩
set_option maxRecDepth 20000 in
theorem k_X11_now_143 : ZF wsX11_now RX11 143 9 2 RX9 TX9 7 := ⟨rfl, by decide, h_X11_now_X9, by decide +kernel⟩
set_option maxRecDepth 20000 in
theorem k_X11_now_160 : ZF wsX11_now RX11 160 9 1 RX9 TX9 7 := ⟨rfl, by decide, h_X11_now_X9, by decide +kernel⟩
set_option maxRecDepth 20000 in
theorem h_X11_now_X8 : ∀ w ∈ wsX80, w ∈ wsX11_now := by decide +kernel
set_option maxRecDepth 20000 in
theorem k_X11_now_163 : ZF wsX11_now RX11 163 8 0 RX8 TX8 7 := ⟨rfl, by decide, h_X11_now_X8, by decide +kernel⟩
set_option maxRecDepth 20000 in
theorem k_X11_now_164 : ZF wsX11_now RX11 164 8 1 RX8 TX8 7 := ⟨rfl, by decide, h_X11_now_X8, by decide +kernel⟩
set_option maxRecDepth 20000 in
theorem k_X11_now_165 : ZF wsX11_now RX11 165 8 2 RX8 TX8 7 := ⟨rfl, by decide, h_X11_now_X8, by decide +kernel⟩
set_option maxRecDepth 20000 in
theorem k_X11_now_172 : ZF wsX11_now RX11 172 9 4 RX9 TX9 7 := ⟨rfl, by decide, h_X11_now_X9, by decide +kernel⟩
set_option maxRecDepth 20000 in
theorem h_X11_now_X4 : ∀ w ∈ wsX40, w ∈ wsX11_now := by decide +kernel
set_option maxRecDepth 20000 in
theorem k_X11_now_175 : ZF wsX11_now RX11 175 4 0 RX4 TX4 5 := ⟨rfl, by decide, h_X11_now_X4, by decide +kernel⟩
set_option maxRecDepth 20000 in
theorem k_X11_now_176 : ZF wsX11_now RX11 176 9 5 RX9 TX9 7 := ⟨rfl, by decide, h_X11_now_X9, by decide +kernel⟩
set_option maxRecDepth 20000 in
theorem k_X11_now_179 : ZF wsX11_now RX11 179 9 6 RX9 TX9 7 := ⟨rfl, by decide, h_X11_now_X9, by decide +kernel⟩
set_option maxHeartbeats 8000000 in
set_option maxRecDepth 100000 in
theorem c_X11_now (l : Launch) (D : va_G) (cA : Nat → ClassId) (g : Nat → Nat) (sz : Nat) (h_t : Nat) (a_t : Nat → Nat) (o_t : Ob) (a_t_reader : Nat → Nat) (o_t_reader : Ob) (a_t_state : Nat → Nat) (o_t_state : Ob) (a_t_state_wares : Nat → Nat) (o_t_state_wares : Ob) (a_t_state_shelf : Nat → Nat) (o_t_state_shelf : Ob) (a_t_state_log : Nat → Nat) (o_t_state_log : Ob) (v1 : Int32) (rv : Int32) (hF : f_X11_now o_t_reader o_t_state o_t_state_wares o_t_state_shelf o_t_state_log v1 = some rv) : Met l yX11_now wsX11_now ({ frames := 1, cells := 0, slots := 0, locals := 20 }) (va_Pc [.ref h_t, .int v1] (PreW D cA g sz (w_X11_now cA h_t a_t o_t a_t_reader o_t_reader a_t_state o_t_state a_t_state_wares o_t_state_wares a_t_state_shelf o_t_state_shelf a_t_state_log o_t_state_log))) (va_Qi (fun (r : Int32) (_ : Unit) => r = rv) (PostW D cA sz (w_X11_now cA h_t a_t o_t a_t_reader o_t_reader a_t_state o_t_state a_t_state_wares o_t_state_wares a_t_state_shelf o_t_state_shelf a_t_state_log o_t_state_log) (w_X11_now cA h_t a_t o_t a_t_reader o_t_reader a_t_state o_t_state a_t_state_wares o_t_state_wares a_t_state_shelf o_t_state_shelf a_t_state_log o_t_state_log)) (va_A (w_X11_now cA h_t a_t o_t a_t_reader o_t_reader a_t_state o_t_state a_t_state_wares o_t_state_wares a_t_state_shelf o_t_state_shelf a_t_state_log o_t_state_log) sz)) 0 0 (va_A (w_X11_now cA h_t a_t o_t a_t_reader o_t_reader a_t_state o_t_state a_t_state_wares o_t_state_wares a_t_state_shelf o_t_state_shelf a_t_state_log o_t_state_log) sz) := by
  refine z_start (cc := cX11_now) (maxL := 2) (ret := (some .int)) (lv0 := [(0, .ref h_t), (1, .int v1)]) (Qc := fun sz => va_Qi (fun (r : Int32) (_ : Unit) => r = rv) (PostW D cA sz (w_X11_now cA h_t a_t o_t a_t_reader o_t_reader a_t_state o_t_state a_t_state_wares o_t_state_wares a_t_state_shelf o_t_state_shelf a_t_state_log o_t_state_log) (w_X11_now cA h_t a_t o_t a_t_reader o_t_reader a_t_state o_t_state a_t_state_wares o_t_state_wares a_t_state_shelf o_t_state_shelf a_t_state_log o_t_state_log)) (va_A (w_X11_now cA h_t a_t o_t a_t_reader o_t_reader a_t_state o_t_state a_t_state_wares o_t_state_wares a_t_state_shelf o_t_state_shelf a_t_state_log o_t_state_log) sz)) (free := fun sz => va_A (w_X11_now cA h_t a_t o_t a_t_reader o_t_reader a_t_state o_t_state a_t_state_wares o_t_state_wares a_t_state_shelf o_t_state_shelf a_t_state_log o_t_state_log) sz) (by decide +kernel) rfl rfl (Nat.le_of_ble_eq_true rfl) ?_
  intro p e R s m args below meth c A Q hR hA hQ X hr hin
  unfold f_X11_now at hF
  refine z_iload_n X dX11_now_0 rfl 1 rfl ?_
  have hF := if_e hF
  by_cases c1 : v1 = (0 : Int32)
  · have hF := hF.1 c1
    refine z_tableIn (tgt := 56) X dX11_now_1 (by rw [c1]; decide) (by rw [c1]; decide) (by rw [c1]; rfl) (by decide) ?_
    refine z_aload_n X dX11_now_56 rfl 0 rfl ?_
    refine z_get (v := .ref (a_t 2)) X k_X11_now_26 0 rfl rfl dX11_now_57 ?_
    refine z_get (v := .ref (a_t_state 1)) X k_X11_now_160 7 rfl rfl dX11_now_60 ?_
    refine z_get (v := .int (o_t_state_shelf 0 0)) X k_X11_now_163 14 rfl rfl dX11_now_63 ?_
    cases hF
    exact z_iret X hA hQ hr rfl dX11_now_66 (Nat.le_refl _) (Nat.le_refl _)
  have hF := hF.2 c1
  have tc1 : Int32.toInt v1 ≠ 0 := ne_t c1
  have hF := if_e hF
  by_cases c2 : v1 = (1 : Int32)
  · have hF := hF.1 c2
    refine z_tableIn (tgt := 67) X dX11_now_1 (by rw [c2]; decide) (by rw [c2]; decide) (by rw [c2]; rfl) (by decide) ?_
    refine z_aload_n X dX11_now_67 rfl 0 rfl ?_
    refine z_get (v := .ref (a_t 2)) X k_X11_now_26 0 rfl rfl dX11_now_68 ?_
    refine z_get (v := .ref (a_t_state 1)) X k_X11_now_160 7 rfl rfl dX11_now_71 ?_
    refine z_get (v := .int (o_t_state_shelf 1 0)) X k_X11_now_164 14 rfl rfl dX11_now_74 ?_
    cases hF
    exact z_iret X hA hQ hr rfl dX11_now_77 (Nat.le_refl _) (Nat.le_refl _)
  have hF := hF.2 c2
  have tc2 : Int32.toInt v1 ≠ 1 := ne_t c2
  have hF := if_e hF
  by_cases c3 : v1 = (2 : Int32)
  · have hF := hF.1 c3
    refine z_tableIn (tgt := 78) X dX11_now_1 (by rw [c3]; decide) (by rw [c3]; decide) (by rw [c3]; rfl) (by decide) ?_
    refine z_aload_n X dX11_now_78 rfl 0 rfl ?_
    refine z_get (v := .ref (a_t 2)) X k_X11_now_26 0 rfl rfl dX11_now_79 ?_
    refine z_get (v := .ref (a_t_state 0)) X k_X11_now_127 7 rfl rfl dX11_now_82 ?_
    refine z_get (v := .int (o_t_state_wares 0 0)) X k_X11_now_121 9 rfl rfl dX11_now_85 ?_
    cases hF
    exact z_iret X hA hQ hr rfl dX11_now_88 (Nat.le_refl _) (Nat.le_refl _)
  have hF := hF.2 c3
  have tc3 : Int32.toInt v1 ≠ 2 := ne_t c3
  have hF := if_e hF
  by_cases c4 : v1 = (3 : Int32)
  · have hF := hF.1 c4
    refine z_tableIn (tgt := 89) X dX11_now_1 (by rw [c4]; decide) (by rw [c4]; decide) (by rw [c4]; rfl) (by decide) ?_
    refine z_aload_n X dX11_now_89 rfl 0 rfl ?_
    refine z_get (v := .ref (a_t 2)) X k_X11_now_26 0 rfl rfl dX11_now_90 ?_
    refine z_get (v := .ref (a_t_state 1)) X k_X11_now_160 7 rfl rfl dX11_now_93 ?_
    refine z_get (v := .int (o_t_state_shelf 2 0)) X k_X11_now_165 14 rfl rfl dX11_now_96 ?_
    cases hF
    exact z_iret X hA hQ hr rfl dX11_now_99 (Nat.le_refl _) (Nat.le_refl _)
  have hF := hF.2 c4
  have tc4 : Int32.toInt v1 ≠ 3 := ne_t c4
  have hF := if_e hF
  by_cases c7 : v1 = (4 : Int32)
  · have hF := hF.1 c7
    refine z_tableIn (tgt := 100) X dX11_now_1 (by rw [c7]; decide) (by rw [c7]; decide) (by rw [c7]; rfl) (by decide) ?_
    refine z_aload_n X dX11_now_100 rfl 0 rfl ?_
    refine z_get (v := .ref (a_t 2)) X k_X11_now_26 0 rfl rfl dX11_now_101 ?_
    refine z_get (v := .ref (a_t_state 1)) X k_X11_now_160 7 rfl rfl dX11_now_104 ?_
    obtain ⟨r5, hc6, hF⟩ := zb1_e hF
    refine z_Vi (As := []) (rest := []) (wc := (w_X8_begin cA (a_t_state 1) a_t_state_shelf o_t_state_shelf)) (wc' := (w_X8_begin cA (a_t_state 1) a_t_state_shelf o_t_state_shelf)) (ws' := (w_X11_now cA h_t a_t o_t a_t_reader o_t_reader a_t_state o_t_state a_t_state_wares o_t_state_wares a_t_state_shelf o_t_state_shelf a_t_state_log o_t_state_log)) (rv := r5) X (cwV 0 X.2.2.2.2.1 gX11_now_X8_free rfl rfl rfl (by decide +kernel) (by rw [hR]; exact ⟨Nat.le_of_ble_eq_true rfl, Nat.le_of_ble_eq_true rfl⟩)) (fun sz => c_X8_free l D cA g sz (a_t_state 1) a_t_state_shelf o_t_state_shelf r5 hc6) [14, 15, 16, 17] [0, 1, 2, 3, 4, 5, 6, 7, 8, 9, 10, 11, 12, 13, 1000, 1001, 1002, 1003, 18, 19, 20, 21, 22] rfl (by decide) rfl (by decide) rfl rfl rfl rfl rfl rfl (Nat.le_of_ble_eq_true rfl) dX11_now_107 ⟨Nat.zero_le _, Nat.zero_le _⟩ ?_
    cases hF
    exact z_iret X hA hQ hr rfl dX11_now_110 (Nat.le_refl _) (Nat.le_refl _)
  have hF := hF.2 c7
  have tc7 : Int32.toInt v1 ≠ 4 := ne_t c7
  have hF := if_e hF
  by_cases c8 : v1 = (5 : Int32)
  · have hF := hF.1 c8
    refine z_tableIn (tgt := 111) X dX11_now_1 (by rw [c8]; decide) (by rw [c8]; decide) (by rw [c8]; rfl) (by decide) ?_
    refine z_aload_n X dX11_now_111 rfl 0 rfl ?_
    refine z_get (v := .ref (a_t 2)) X k_X11_now_26 0 rfl rfl dX11_now_112 ?_
    refine z_get (v := .int (o_t_state 4 0)) X k_X11_now_172 7 rfl rfl dX11_now_115 ?_
    cases hF
    exact z_iret X hA hQ hr rfl dX11_now_118 (Nat.le_refl _) (Nat.le_refl _)
  have hF := hF.2 c8
  have tc8 : Int32.toInt v1 ≠ 5 := ne_t c8
  have hF := if_e hF
  by_cases c9 : v1 = (6 : Int32)
  · have hF := hF.1 c9
    refine z_tableIn (tgt := 119) X dX11_now_1 (by rw [c9]; decide) (by rw [c9]; decide) (by rw [c9]; rfl) (by decide) ?_
    refine z_aload_n X dX11_now_119 rfl 0 rfl ?_
    refine z_get (v := .ref (a_t 2)) X k_X11_now_26 0 rfl rfl dX11_now_120 ?_
    refine z_get (v := .ref (a_t_state 2)) X k_X11_now_143 7 rfl rfl dX11_now_123 ?_
    refine z_get (v := .int (o_t_state_log 0 0)) X k_X11_now_175 18 rfl rfl dX11_now_126 ?_
    cases hF
    exact z_iret X hA hQ hr rfl dX11_now_129 (Nat.le_refl _) (Nat.le_refl _)
  have hF := hF.2 c9
  have tc9 : Int32.toInt v1 ≠ 6 := ne_t c9
  have hF := if_e hF
  by_cases c10 : v1 = (7 : Int32)
  · have hF := hF.1 c10
    refine z_tableIn (tgt := 130) X dX11_now_1 (by rw [c10]; decide) (by rw [c10]; decide) (by rw [c10]; rfl) (by decide) ?_
    refine z_aload_n X dX11_now_130 rfl 0 rfl ?_
    refine z_get (v := .ref (a_t 0)) X k_X11_now_10 0 rfl rfl dX11_now_131 ?_
    refine z_get (v := .int (o_t_reader 1 0)) X k_X11_now_96 2 rfl rfl dX11_now_134 ?_
    cases hF
    exact z_iret X hA hQ hr rfl dX11_now_137 (Nat.le_refl _) (Nat.le_refl _)
  have hF := hF.2 c10
  have tc10 : Int32.toInt v1 ≠ 7 := ne_t c10
  have hF := if_e hF
  by_cases c11 : v1 = (8 : Int32)
  · have hF := hF.1 c11
    refine z_tableIn (tgt := 138) X dX11_now_1 (by rw [c11]; decide) (by rw [c11]; decide) (by rw [c11]; rfl) (by decide) ?_
    refine z_aload_n X dX11_now_138 rfl 0 rfl ?_
    refine z_get (v := .ref (a_t 2)) X k_X11_now_26 0 rfl rfl dX11_now_139 ?_
    refine z_get (v := .int (o_t_state 5 0)) X k_X11_now_176 7 rfl rfl dX11_now_142 ?_
    cases hF
    exact z_iret X hA hQ hr rfl dX11_now_145 (Nat.le_refl _) (Nat.le_refl _)
  have hF := hF.2 c11
  have tc11 : Int32.toInt v1 ≠ 8 := ne_t c11
  have hF := if_e hF
  by_cases c12 : v1 = (9 : Int32)
  · have hF := hF.1 c12
    refine z_tableIn (tgt := 146) X dX11_now_1 (by rw [c12]; decide) (by rw [c12]; decide) (by rw [c12]; rfl) (by decide) ?_
    refine z_aload_n X dX11_now_146 rfl 0 rfl ?_
    refine z_get (v := .ref (a_t 2)) X k_X11_now_26 0 rfl rfl dX11_now_147 ?_
    refine z_get (v := .int (o_t_state 6 0)) X k_X11_now_179 7 rfl rfl dX11_now_150 ?_
    cases hF
    exact z_iret X hA hQ hr rfl dX11_now_153 (Nat.le_refl _) (Nat.le_refl _)
  have hF := hF.2 c12
  have tc12 : Int32.toInt v1 ≠ 9 := ne_t c12
  refine z_tableOut (tgt := 154) X dX11_now_1 (by omega) (by decide) ?_
  refine z_iconst (v := (-1 : Int32)) X dX11_now_154 (by decide) ?_
  cases hF
  exact z_iret X hA hQ hr rfl dX11_now_155 (Nat.le_refl _) (Nat.le_refl _)
set_option maxRecDepth 20000 in
theorem k_X11_floatBits_c377 : Cond.constantFloat RX11 377 1258291200 ∈ wsX11_floatBits := by decide +kernel
set_option maxRecDepth 20000 in
theorem k_X11_floatBits_c378 : Cond.constant RX11 378 (8388608) ∈ wsX11_floatBits := by decide +kernel
set_option maxHeartbeats 8000000 in
set_option maxRecDepth 100000 in
theorem c_X11_floatBits (l : Launch) (D : va_G) (cA : Nat → ClassId) (g : Nat → Nat) (sz : Nat)  (v0 : UInt32) (rv : Int32) (hF : f_X11_floatBits v0 = some rv) : Met l yX11_floatBits wsX11_floatBits ({ frames := 0, cells := 0, slots := 0, locals := 0 }) (va_Pc [.float v0] (PreW D cA g sz ([] : va_W))) (va_Qi (fun (r : Int32) (_ : Unit) => r = rv) (PostW D cA sz ([] : va_W) ([] : va_W)) (va_A ([] : va_W) sz)) 0 0 (va_A ([] : va_W) sz) := by
  refine z_start (cc := cX11_floatBits) (maxL := 4) (ret := (some .int)) (lv0 := [(0, .float v0)]) (Qc := fun sz => va_Qi (fun (r : Int32) (_ : Unit) => r = rv) (PostW D cA sz ([] : va_W) ([] : va_W)) (va_A ([] : va_W) sz)) (free := fun sz => va_A ([] : va_W) sz) (by decide +kernel) rfl rfl (Nat.le_of_ble_eq_true rfl) ?_
  intro p e R s m args below meth c A Q hR hA hQ X hr hin
  unfold f_X11_floatBits at hF
  refine z_fload_n X dX11_floatBits_0 rfl 0 rfl ?_
  refine z_fconst0 X dX11_floatBits_1 ?_
  refine z_fcmp X dX11_floatBits_2 ?_
  have hF := if_e hF
  refine z_if_gt (tgt := 8) X dX11_floatBits_3 (by decide) (fun c48 => ?_) (fun c48 => ?_)
  · have hF := hF.1 c48
    refine z_fload_n X dX11_floatBits_8 rfl 0 rfl ?_
    refine z_fstore_n (lv' := [(1, .float v0), (0, .float v0)]) X dX11_floatBits_9 rfl (by decide) rfl ?_
    refine z_bipush (v := (127 : Int32)) X dX11_floatBits_10 (by decide) ?_
    refine z_istore_n (lv' := [(2, .int (127 : Int32)), (1, .float v0), (0, .float v0)]) X dX11_floatBits_12 rfl (by decide) rfl ?_
    refine z_iconst (v := (0 : Int32)) X dX11_floatBits_13 (by decide) ?_
    refine z_istore_n (lv' := [(3, .int (0 : Int32)), (2, .int (127 : Int32)), (1, .float v0), (0, .float v0)]) X dX11_floatBits_14 rfl (by decide) rfl ?_
    obtain ⟨k13, k14, hL, hF⟩ := zb2_e hF
    have L39_x : ∀ (k13' : UInt32) (k14' : Int32), (k13', k14') = (k13, k14) → ZW p l e R s m args below meth c D A 4 0 0 Q ([] : va_W) [(1, .float k13'), (2, .int k14')] 40 [] := by
      intro k13' k14' hz
      cases hz
      refine z_iconst (v := (0 : Int32)) X dX11_floatBits_40 (by decide) ?_
      refine z_istore_n (lv' := [(3, .int (0 : Int32)), (1, .float k13), (2, .int k14)]) X dX11_floatBits_41 rfl (by decide) rfl ?_
      obtain ⟨k27, k28, hL, hF⟩ := zb2_e hF
      have L30_x : ∀ (k27' : UInt32) (k28' : Int32), (k27', k28') = (k27, k28) → ZW p l e R s m args below meth c D A 4 0 0 Q ([] : va_W) [(1, .float k27'), (2, .int k28')] 67 [] := by
        intro k27' k28' hz
        cases hz
        refine z_iload_n X dX11_floatBits_67 rfl 1 rfl ?_
        refine z_bipush (v := (23 : Int32)) X dX11_floatBits_68 (by decide) ?_
        refine z_ishl X dX11_floatBits_70 ?_
        refine z_fload_n X dX11_floatBits_71 rfl 0 rfl ?_
        refine z_ldcwf X k_X11_floatBits_c377 dX11_floatBits_72 ?_
        obtain ⟨g29, hF⟩ := gq_e hF
        refine z_fmul X g29 dX11_floatBits_75 ?_
        refine z_f2i X dX11_floatBits_76 ?_
        refine z_iadd X dX11_floatBits_77 ?_
        refine z_ldcw X k_X11_floatBits_c378 dX11_floatBits_78 ?_
        refine z_isub X dX11_floatBits_81 ?_
        cases hF
        exact z_iret X hA hQ hr rfl dX11_floatBits_82 (Nat.le_refl _) (Nat.le_refl _)
      obtain ⟨B38, hBB38, hL⟩ := zl3_b hL
      have L30 : ∀ (n : Nat) (k24 : UInt32) (k25 : Int32) (k26 : Int32), zl3 B38 n k24 k25 k26 = some (k27, k28) → ZW p l e R s m args below meth c D A 4 0 0 Q ([] : va_W) [(1, .float k24), (2, .int k25), (3, .int k26)] 42 [] := by
        intro n
        induction n with
        | zero => intro k24 k25 k26 hL; cases hL
        | succ n ih =>
          intro k24 k25 k26 hL
          obtain ⟨zz31, hF, hL⟩ := zl3_e hL
          rw [hBB38] at hF
          refine z_iload_n X dX11_floatBits_42 rfl 2 rfl ?_
          refine z_bipush (v := (126 : Int32)) X dX11_floatBits_43 (by decide) ?_
          have hF := if_e hF
          refine z_icmp_ge (tgt := 67) X dX11_floatBits_45 (by decide) (fun c37 => ?_) (fun c37 => ?_)
          · have hF := hF.1 c37
            cases hF
            have hL := Option.some.inj hL
            refine z_lv (lv' := [(1, .float k24), (2, .int k25)]) [0, 1] rfl ?_
            exact L30_x k24 k25 hL
          · have hF := hF.2 c37
            refine z_fload_n X dX11_floatBits_48 rfl 0 rfl ?_
            refine z_fconst1 X dX11_floatBits_49 ?_
            refine z_fcmp X dX11_floatBits_50 ?_
            have hF := if_e hF
            refine z_if_ge (tgt := 67) X dX11_floatBits_51 (by decide) (fun c36 => ?_) (fun c36 => ?_)
            · have hF := hF.1 c36
              cases hF
              have hL := Option.some.inj hL
              refine z_lv (lv' := [(1, .float k24), (2, .int k25)]) [0, 1] rfl ?_
              exact L30_x k24 k25 hL
            · have hF := hF.2 c36
              refine z_fload_n X dX11_floatBits_54 rfl 0 rfl ?_
              refine z_fconst2 X dX11_floatBits_55 ?_
              obtain ⟨g32, hF⟩ := gq_e hF
              refine z_fmul X g32 dX11_floatBits_56 ?_
              obtain ⟨x33, ex33, hF⟩ := nx_e hF
              refine z_nmf ex33 ?_
              refine z_fstore_n (lv' := [(1, .float x33), (2, .int k25), (3, .int k26)]) X dX11_floatBits_57 rfl (by decide) rfl ?_
              obtain ⟨x34, ex34, hF⟩ := nx_e hF
              refine z_iinc (v := x34) (lv' := [(2, .int x34), (1, .float x33), (3, .int k26)]) (j := 1) X dX11_floatBits_58 rfl (by rw [ex34]; rfl) (by decide) rfl ?_
              obtain ⟨x35, ex35, hF⟩ := nx_e hF
              refine z_iinc (v := x35) (lv' := [(3, .int x35), (2, .int x34), (1, .float x33)]) (j := 2) X dX11_floatBits_61 rfl (by rw [ex35]; rfl) (by decide) rfl ?_
              refine z_goto (tgt := 42) X dX11_floatBits_64 (by decide) ?_
              cases hF
              refine z_lv (lv' := [(1, .float x33), (2, .int x34), (3, .int x35)]) [2, 1, 0] rfl ?_
              exact ih x33 x34 x35 hL
      refine z_lv (lv' := [(1, .float k13), (2, .int k14), (3, .int (0 : Int32))]) [1, 2, 0] rfl ?_
      exact L30 FU k13 k14 (0 : Int32) hL
    obtain ⟨B47, hBB47, hL⟩ := zl3_b hL
    have L39 : ∀ (n : Nat) (k10 : UInt32) (k11 : Int32) (k12 : Int32), zl3 B47 n k10 k11 k12 = some (k13, k14) → ZW p l e R s m args below meth c D A 4 0 0 Q ([] : va_W) [(1, .float k10), (2, .int k11), (3, .int k12)] 15 [] := by
      intro n
      induction n with
      | zero => intro k10 k11 k12 hL; cases hL
      | succ n ih =>
        intro k10 k11 k12 hL
        obtain ⟨zz40, hF, hL⟩ := zl3_e hL
        rw [hBB47] at hF
        refine z_iload_n X dX11_floatBits_15 rfl 2 rfl ?_
        refine z_bipush (v := (127 : Int32)) X dX11_floatBits_16 (by decide) ?_
        have hF := if_e hF
        refine z_icmp_ge (tgt := 40) X dX11_floatBits_18 (by decide) (fun c46 => ?_) (fun c46 => ?_)
        · have hF := hF.1 c46
          cases hF
          have hL := Option.some.inj hL
          refine z_lv (lv' := [(1, .float k10), (2, .int k11)]) [0, 1] rfl ?_
          exact L39_x k10 k11 hL
        · have hF := hF.2 c46
          refine z_fload_n X dX11_floatBits_21 rfl 0 rfl ?_
          refine z_fconst2 X dX11_floatBits_22 ?_
          refine z_fcmp X dX11_floatBits_23 ?_
          have hF := if_e hF
          refine z_if_lt (tgt := 40) X dX11_floatBits_24 (by decide) (fun c45 => ?_) (fun c45 => ?_)
          · have hF := hF.1 c45
            cases hF
            have hL := Option.some.inj hL
            refine z_lv (lv' := [(1, .float k10), (2, .int k11)]) [0, 1] rfl ?_
            exact L39_x k10 k11 hL
          · have hF := hF.2 c45
            refine z_fload_n X dX11_floatBits_27 rfl 0 rfl ?_
            refine z_fconst2 X dX11_floatBits_28 ?_
            obtain ⟨g41, hF⟩ := gq_e hF
            refine z_fdiv X g41 dX11_floatBits_29 ?_
            obtain ⟨x42, ex42, hF⟩ := nx_e hF
            refine z_nmf ex42 ?_
            refine z_fstore_n (lv' := [(1, .float x42), (2, .int k11), (3, .int k12)]) X dX11_floatBits_30 rfl (by decide) rfl ?_
            obtain ⟨x43, ex43, hF⟩ := nx_e hF
            refine z_iinc (v := x43) (lv' := [(2, .int x43), (1, .float x42), (3, .int k12)]) (j := 1) X dX11_floatBits_31 rfl (by rw [ex43]; rfl) (by decide) rfl ?_
            obtain ⟨x44, ex44, hF⟩ := nx_e hF
            refine z_iinc (v := x44) (lv' := [(3, .int x44), (2, .int x43), (1, .float x42)]) (j := 2) X dX11_floatBits_34 rfl (by rw [ex44]; rfl) (by decide) rfl ?_
            refine z_goto (tgt := 15) X dX11_floatBits_37 (by decide) ?_
            cases hF
            refine z_lv (lv' := [(1, .float x42), (2, .int x43), (3, .int x44)]) [2, 1, 0] rfl ?_
            exact ih x42 x43 x44 hL
    refine z_lv (lv' := [(1, .float v0), (2, .int (127 : Int32)), (3, .int (0 : Int32))]) [2, 1, 0] rfl ?_
    exact L39 FU v0 (127 : Int32) (0 : Int32) hL
  · have hF := hF.2 c48
    refine z_iconst (v := (0 : Int32)) X dX11_floatBits_6 (by decide) ?_
    cases hF
    exact z_iret X hA hQ hr rfl dX11_floatBits_7 (Nat.le_refl _) (Nat.le_refl _)
abbrev w_X11_item (cA : Nat → ClassId) (h_t : Nat) (a_t : Nat → Nat) (o_t : Ob) (a_t_state : Nat → Nat) (o_t_state : Ob) (a_t_state_wares : Nat → Nat) (o_t_state_wares : Ob) (a_t_state_shelf : Nat → Nat) (o_t_state_shelf : Ob) : va_W := [(h_t, .inr (11, [.ref (a_t 0), .ref (a_t 1), .ref (a_t 2), .ref (a_t 3), .ref (a_t 4), .ref (a_t 5), .ref (a_t 6), .ref (a_t 7), .ref (a_t 8), .ref (a_t 9), .ref (a_t 10), .ref (a_t 11), .ref (a_t 12), .int (o_t 13 0), .int (o_t 14 0)])), (a_t 12, .inl (cA 0, 20, .inl (o_t 12))), ((a_t 2), .inr (9, [.ref (a_t_state 0), .ref (a_t_state 1), .ref (a_t_state 2), .ref (a_t_state 3), .int (o_t_state 4 0), .int (o_t_state 5 0), .int (o_t_state 6 0)])), (a_t_state 3, .inl (cA 4, 3, .inr (.inr (.inr (.inr (bk (a_t_state 20) (a_t_state 21) (a_t_state 22))))))), ((a_t_state 0), .inr (10, [.int (o_t_state_wares 0 0), .ref (a_t_state_wares 1), .ref (a_t_state_wares 2), .ref (a_t_state_wares 3), .ref (a_t_state_wares 4)])), (a_t_state_wares 1, .inl (cA 0, 8, .inl (o_t_state_wares 1))), (a_t_state_wares 2, .inl (cA 0, 8, .inl (o_t_state_wares 2))), (a_t_state_wares 3, .inl (cA 0, 8, .inl (o_t_state_wares 3))), (a_t_state_wares 4, .inl (cA 0, 8, .inl (o_t_state_wares 4))), ((a_t_state 1), .inr (8, [.int (o_t_state_shelf 0 0), .int (o_t_state_shelf 1 0), .int (o_t_state_shelf 2 0), .int (o_t_state_shelf 3 0), .ref (a_t_state_shelf 4), .ref (a_t_state_shelf 5), .ref (a_t_state_shelf 6)])), (a_t_state_shelf 4, .inl (cA 0, 8, .inl (o_t_state_shelf 4))), (a_t_state_shelf 5, .inl (cA 0, 8, .inl (o_t_state_shelf 5))), (a_t_state_shelf 6, .inl (cA 1, 8, .inr (.inr (.inl (fun j => (o_t_state_shelf 6 j).toUInt32)))))]
set_option maxRecDepth 20000 in
theorem h_X11_item_X11 : ∀ w ∈ wsX110, w ∈ wsX11_item := by decide +kernel
set_option maxRecDepth 20000 in
theorem k_X11_item_26 : ZF wsX11_item RX11 26 11 2 RX11 TX11 15 := ⟨rfl, by decide, h_X11_item_X11, by decide +kernel⟩
set_option maxRecDepth 20000 in
theorem h_X11_item_X9 : ∀ w ∈ wsX90, w ∈ wsX11_item := by decide +kernel
set_option maxRecDepth 20000 in
theorem k_X11_item_127 : ZF wsX11_item RX11 127 9 0 RX9 TX9 7 := ⟨rfl, by decide, h_X11_item_X9, by decide +kernel⟩
set_option maxRecDepth 20000 in
theorem k_X11_item_160 : ZF wsX11_item RX11 160 9 1 RX9 TX9 7 := ⟨rfl, by decide, h_X11_item_X9, by decide +kernel⟩
set_option maxRecDepth 20000 in
theorem h_X11_item_X10 : ∀ w ∈ wsX100, w ∈ wsX11_item := by decide +kernel
set_option maxRecDepth 20000 in
theorem k_X11_item_185 : ZF wsX11_item RX11 185 10 1 RX10 TX10 5 := ⟨rfl, by decide, h_X11_item_X10, by decide +kernel⟩
set_option maxRecDepth 20000 in
theorem k_X11_item_188 : ZF wsX11_item RX11 188 10 2 RX10 TX10 5 := ⟨rfl, by decide, h_X11_item_X10, by decide +kernel⟩
set_option maxRecDepth 20000 in
theorem k_X11_item_191 : ZF wsX11_item RX11 191 10 3 RX10 TX10 5 := ⟨rfl, by decide, h_X11_item_X10, by decide +kernel⟩
set_option maxRecDepth 20000 in
theorem h_X11_item_X8 : ∀ w ∈ wsX80, w ∈ wsX11_item := by decide +kernel
set_option maxRecDepth 20000 in
theorem k_X11_item_194 : ZF wsX11_item RX11 194 8 4 RX8 TX8 7 := ⟨rfl, by decide, h_X11_item_X8, by decide +kernel⟩
set_option maxRecDepth 20000 in
theorem k_X11_item_197 : ZF wsX11_item RX11 197 8 5 RX8 TX8 7 := ⟨rfl, by decide, h_X11_item_X8, by decide +kernel⟩
set_option maxRecDepth 20000 in
theorem k_X11_item_200 : ZF wsX11_item RX11 200 8 6 RX8 TX8 7 := ⟨rfl, by decide, h_X11_item_X8, by decide +kernel⟩
set_option maxHeartbeats 8000000 in
set_option maxRecDepth 100000 in
theorem c_X11_item (l : Launch) (D : va_G) (cA : Nat → ClassId) (g : Nat → Nat) (sz : Nat) (h_t : Nat) (a_t : Nat → Nat) (o_t : Ob) (a_t_state : Nat → Nat) (o_t_state : Ob) (a_t_state_wares : Nat → Nat) (o_t_state_wares : Ob) (a_t_state_shelf : Nat → Nat) (o_t_state_shelf : Ob) (v1 : Int32) (v2 : Int32) (rv : Int32) (hF : f_X11_item o_t_state_wares o_t_state_shelf v1 v2 = some rv) : Met l yX11_item wsX11_item ({ frames := 1, cells := 0, slots := 0, locals := 23 }) (va_Pc [.ref h_t, .int v1, .int v2] (PreW D cA g sz (w_X11_item cA h_t a_t o_t a_t_state o_t_state a_t_state_wares o_t_state_wares a_t_state_shelf o_t_state_shelf))) (va_Qi (fun (r : Int32) (_ : Unit) => r = rv) (PostW D cA sz (w_X11_item cA h_t a_t o_t a_t_state o_t_state a_t_state_wares o_t_state_wares a_t_state_shelf o_t_state_shelf) (w_X11_item cA h_t a_t o_t a_t_state o_t_state a_t_state_wares o_t_state_wares a_t_state_shelf o_t_state_shelf)) (va_A (w_X11_item cA h_t a_t o_t a_t_state o_t_state a_t_state_wares o_t_state_wares a_t_state_shelf o_t_state_shelf) sz)) 0 0 (va_A (w_X11_item cA h_t a_t o_t a_t_state o_t_state a_t_state_wares o_t_state_wares a_t_state_shelf o_t_state_shelf) sz) := by
  refine z_start (cc := cX11_item) (maxL := 3) (ret := (some .int)) (lv0 := [(0, .ref h_t), (1, .int v1), (2, .int v2)]) (Qc := fun sz => va_Qi (fun (r : Int32) (_ : Unit) => r = rv) (PostW D cA sz (w_X11_item cA h_t a_t o_t a_t_state o_t_state a_t_state_wares o_t_state_wares a_t_state_shelf o_t_state_shelf) (w_X11_item cA h_t a_t o_t a_t_state o_t_state a_t_state_wares o_t_state_wares a_t_state_shelf o_t_state_shelf)) (va_A (w_X11_item cA h_t a_t o_t a_t_state o_t_state a_t_state_wares o_t_state_wares a_t_state_shelf o_t_state_shelf) sz)) (free := fun sz => va_A (w_X11_item cA h_t a_t o_t a_t_state o_t_state a_t_state_wares o_t_state_wares a_t_state_shelf o_t_state_shelf) sz) (by decide +kernel) rfl rfl (Nat.le_of_ble_eq_true rfl) ?_
  intro p e R s m args below meth c A Q hR hA hQ X hr hin
  unfold f_X11_item at hF
  refine z_aload_n X dX11_item_0 rfl 0 rfl ?_
  refine z_get (v := .ref (a_t 2)) X k_X11_item_26 0 rfl rfl dX11_item_1 ?_
  refine z_get (v := .ref (a_t_state 0)) X k_X11_item_127 2 rfl rfl dX11_item_4 ?_
  refine z_iload_n X dX11_item_7 rfl 1 rfl ?_
  obtain ⟨r1, hc2, hF⟩ := zb1_e hF
  refine z_Vi (As := [.int v1]) (rest := []) (wc := (w_X10_numberOf cA (a_t_state 0) a_t_state_wares o_t_state_wares)) (wc' := (w_X10_numberOf cA (a_t_state 0) a_t_state_wares o_t_state_wares)) (ws' := (w_X11_item cA h_t a_t o_t a_t_state o_t_state a_t_state_wares o_t_state_wares a_t_state_shelf o_t_state_shelf)) (rv := r1) X (cwV 1 X.2.2.2.2.1 gX11_item_X10_has rfl rfl rfl (by decide +kernel) (by rw [hR]; exact ⟨Nat.le_of_ble_eq_true rfl, Nat.le_of_ble_eq_true rfl⟩)) (fun sz => c_X10_has l D cA g sz (a_t_state 0) a_t_state_wares o_t_state_wares v1 r1 hc2) [4, 5, 6, 7, 8] [0, 1, 2, 3, 1000, 1001, 1002, 1003, 1004, 9, 10, 11, 12] rfl (by decide) rfl (by decide) rfl rfl rfl rfl rfl rfl (Nat.le_of_ble_eq_true rfl) dX11_item_8 ⟨Nat.zero_le _, Nat.zero_le _⟩ ?_
  have hF := if_e hF
  refine z_if_ne (tgt := 16) X dX11_item_11 (by decide) (fun c17 => ?_) (fun c17 => ?_)
  · have hF := hF.2 c17
    refine z_iload_n X dX11_item_16 rfl 2 rfl ?_
    have hF := if_e hF
    by_cases c4 : v2 = (0 : Int32)
    · have hF := hF.1 c4
      refine z_tableIn (tgt := 56) X dX11_item_17 (by rw [c4]; decide) (by rw [c4]; decide) (by rw [c4]; rfl) (by decide) ?_
      refine z_aload_n X dX11_item_56 rfl 0 rfl ?_
      refine z_get (v := .ref (a_t 2)) X k_X11_item_26 0 rfl rfl dX11_item_57 ?_
      refine z_get (v := .ref (a_t_state 0)) X k_X11_item_127 2 rfl rfl dX11_item_60 ?_
      refine z_get (v := .ref (a_t_state_wares 1)) X k_X11_item_185 4 rfl rfl dX11_item_63 ?_
      refine z_iload_n X dX11_item_66 rfl 1 rfl ?_
      obtain ⟨g3, hF⟩ := gi_e hF
      refine z_iald X 5 rfl g3 dX11_item_67 ?_
      cases hF
      exact z_iret X hA hQ hr rfl dX11_item_68 (Nat.le_refl _) (Nat.le_refl _)
    have hF := hF.2 c4
    have tc4 : Int32.toInt v2 ≠ 0 := ne_t c4
    have hF := if_e hF
    by_cases c6 : v2 = (1 : Int32)
    · have hF := hF.1 c6
      refine z_tableIn (tgt := 69) X dX11_item_17 (by rw [c6]; decide) (by rw [c6]; decide) (by rw [c6]; rfl) (by decide) ?_
      refine z_aload_n X dX11_item_69 rfl 0 rfl ?_
      refine z_get (v := .ref (a_t 2)) X k_X11_item_26 0 rfl rfl dX11_item_70 ?_
      refine z_get (v := .ref (a_t_state 0)) X k_X11_item_127 2 rfl rfl dX11_item_73 ?_
      refine z_get (v := .ref (a_t_state_wares 2)) X k_X11_item_188 4 rfl rfl dX11_item_76 ?_
      refine z_iload_n X dX11_item_79 rfl 1 rfl ?_
      obtain ⟨g5, hF⟩ := gi_e hF
      refine z_iald X 6 rfl g5 dX11_item_80 ?_
      cases hF
      exact z_iret X hA hQ hr rfl dX11_item_81 (Nat.le_refl _) (Nat.le_refl _)
    have hF := hF.2 c6
    have tc6 : Int32.toInt v2 ≠ 1 := ne_t c6
    have hF := if_e hF
    by_cases c8 : v2 = (2 : Int32)
    · have hF := hF.1 c8
      refine z_tableIn (tgt := 82) X dX11_item_17 (by rw [c8]; decide) (by rw [c8]; decide) (by rw [c8]; rfl) (by decide) ?_
      refine z_aload_n X dX11_item_82 rfl 0 rfl ?_
      refine z_get (v := .ref (a_t 2)) X k_X11_item_26 0 rfl rfl dX11_item_83 ?_
      refine z_get (v := .ref (a_t_state 0)) X k_X11_item_127 2 rfl rfl dX11_item_86 ?_
      refine z_get (v := .ref (a_t_state_wares 3)) X k_X11_item_191 4 rfl rfl dX11_item_89 ?_
      refine z_iload_n X dX11_item_92 rfl 1 rfl ?_
      obtain ⟨g7, hF⟩ := gi_e hF
      refine z_iald X 7 rfl g7 dX11_item_93 ?_
      cases hF
      exact z_iret X hA hQ hr rfl dX11_item_94 (Nat.le_refl _) (Nat.le_refl _)
    have hF := hF.2 c8
    have tc8 : Int32.toInt v2 ≠ 2 := ne_t c8
    have hF := if_e hF
    by_cases c10 : v2 = (3 : Int32)
    · have hF := hF.1 c10
      refine z_tableIn (tgt := 95) X dX11_item_17 (by rw [c10]; decide) (by rw [c10]; decide) (by rw [c10]; rfl) (by decide) ?_
      refine z_aload_n X dX11_item_95 rfl 0 rfl ?_
      refine z_get (v := .ref (a_t 2)) X k_X11_item_26 0 rfl rfl dX11_item_96 ?_
      refine z_get (v := .ref (a_t_state 1)) X k_X11_item_160 2 rfl rfl dX11_item_99 ?_
      refine z_get (v := .ref (a_t_state_shelf 4)) X k_X11_item_194 9 rfl rfl dX11_item_102 ?_
      refine z_iload_n X dX11_item_105 rfl 1 rfl ?_
      obtain ⟨g9, hF⟩ := gi_e hF
      refine z_iald X 10 rfl g9 dX11_item_106 ?_
      cases hF
      exact z_iret X hA hQ hr rfl dX11_item_107 (Nat.le_refl _) (Nat.le_refl _)
    have hF := hF.2 c10
    have tc10 : Int32.toInt v2 ≠ 3 := ne_t c10
    have hF := if_e hF
    by_cases c12 : v2 = (4 : Int32)
    · have hF := hF.1 c12
      refine z_tableIn (tgt := 108) X dX11_item_17 (by rw [c12]; decide) (by rw [c12]; decide) (by rw [c12]; rfl) (by decide) ?_
      refine z_aload_n X dX11_item_108 rfl 0 rfl ?_
      refine z_get (v := .ref (a_t 2)) X k_X11_item_26 0 rfl rfl dX11_item_109 ?_
      refine z_get (v := .ref (a_t_state 1)) X k_X11_item_160 2 rfl rfl dX11_item_112 ?_
      refine z_get (v := .ref (a_t_state_shelf 5)) X k_X11_item_197 9 rfl rfl dX11_item_115 ?_
      refine z_iload_n X dX11_item_118 rfl 1 rfl ?_
      obtain ⟨g11, hF⟩ := gi_e hF
      refine z_iald X 11 rfl g11 dX11_item_119 ?_
      cases hF
      exact z_iret X hA hQ hr rfl dX11_item_120 (Nat.le_refl _) (Nat.le_refl _)
    have hF := hF.2 c12
    have tc12 : Int32.toInt v2 ≠ 4 := ne_t c12
    have hF := if_e hF
    by_cases c16 : v2 = (5 : Int32)
    · have hF := hF.1 c16
      refine z_tableIn (tgt := 121) X dX11_item_17 (by rw [c16]; decide) (by rw [c16]; decide) (by rw [c16]; rfl) (by decide) ?_
      refine z_aload_n X dX11_item_121 rfl 0 rfl ?_
      refine z_get (v := .ref (a_t 2)) X k_X11_item_26 0 rfl rfl dX11_item_122 ?_
      refine z_get (v := .ref (a_t_state 1)) X k_X11_item_160 2 rfl rfl dX11_item_125 ?_
      refine z_get (v := .ref (a_t_state_shelf 6)) X k_X11_item_200 9 rfl rfl dX11_item_128 ?_
      refine z_iload_n X dX11_item_131 rfl 1 rfl ?_
      obtain ⟨g13, hF⟩ := gi_e hF
      refine z_fald X 12 rfl g13 dX11_item_132 ?_
      obtain ⟨r14, hc15, hF⟩ := zb1_e hF
      refine z_Si (As := [.float ((o_t_state_shelf 6 (Int32.toNatClampNeg v1)).toUInt32)]) (rest := []) (wc := ([] : va_W)) (wc' := ([] : va_W)) (ws' := (w_X11_item cA h_t a_t o_t a_t_state o_t_state a_t_state_wares o_t_state_wares a_t_state_shelf o_t_state_shelf)) (rv := r14) X (va_cwS 1 X.2.2.2.2.1 gX11_item_X11_floatBits rfl rfl rfl (by decide +kernel) (by rw [hR]; exact ⟨Nat.le_of_ble_eq_true rfl, Nat.le_of_ble_eq_true rfl⟩)) (fun sz => c_X11_floatBits l D cA g sz ((o_t_state_shelf 6 (Int32.toNatClampNeg v1)).toUInt32) r14 hc15) [] [0, 1, 2, 3, 4, 5, 6, 7, 8, 9, 10, 11, 12] rfl (by decide) rfl (by decide) rfl rfl rfl (Nat.le_of_ble_eq_true rfl) dX11_item_133 ⟨Nat.zero_le _, Nat.zero_le _⟩ ?_
      cases hF
      exact z_iret X hA hQ hr rfl dX11_item_136 (Nat.le_refl _) (Nat.le_refl _)
    have hF := hF.2 c16
    have tc16 : Int32.toInt v2 ≠ 5 := ne_t c16
    refine z_tableOut (tgt := 137) X dX11_item_17 (by omega) (by decide) ?_
    refine z_iconst (v := (-1 : Int32)) X dX11_item_137 (by decide) ?_
    cases hF
    exact z_iret X hA hQ hr rfl dX11_item_138 (Nat.le_refl _) (Nat.le_refl _)
  · have hF := hF.1 c17
    refine z_iconst (v := (-1 : Int32)) X dX11_item_14 (by decide) ?_
    cases hF
    exact z_iret X hA hQ hr rfl dX11_item_15 (Nat.le_refl _) (Nat.le_refl _)
set_option maxRecDepth 20000 in
theorem h_X11_picture_X11 : ∀ w ∈ wsX110, w ∈ wsX11_picture := by decide +kernel
set_option maxRecDepth 20000 in
theorem k_X11_picture_26 : ZF wsX11_picture RX11 26 11 2 RX11 TX11 15 := ⟨rfl, by decide, h_X11_picture_X11, by decide +kernel⟩
set_option maxRecDepth 20000 in
theorem k_X11_picture_84 : ZF wsX11_picture RX11 84 11 12 RX11 TX11 15 := ⟨rfl, by decide, h_X11_picture_X11, by decide +kernel⟩
set_option maxRecDepth 20000 in
theorem h_X11_picture_X10 : ∀ w ∈ wsX100, w ∈ wsX11_picture := by decide +kernel
set_option maxRecDepth 20000 in
theorem k_X11_picture_121 : ZF wsX11_picture RX11 121 10 0 RX10 TX10 5 := ⟨rfl, by decide, h_X11_picture_X10, by decide +kernel⟩
set_option maxRecDepth 20000 in
theorem h_X11_picture_X9 : ∀ w ∈ wsX90, w ∈ wsX11_picture := by decide +kernel
set_option maxRecDepth 20000 in
theorem k_X11_picture_127 : ZF wsX11_picture RX11 127 9 0 RX9 TX9 7 := ⟨rfl, by decide, h_X11_picture_X9, by decide +kernel⟩
set_option maxRecDepth 20000 in
theorem k_X11_picture_160 : ZF wsX11_picture RX11 160 9 1 RX9 TX9 7 := ⟨rfl, by decide, h_X11_picture_X9, by decide +kernel⟩
set_option maxRecDepth 20000 in
theorem h_X11_picture_X8 : ∀ w ∈ wsX80, w ∈ wsX11_picture := by decide +kernel
set_option maxRecDepth 20000 in
theorem k_X11_picture_163 : ZF wsX11_picture RX11 163 8 0 RX8 TX8 7 := ⟨rfl, by decide, h_X11_picture_X8, by decide +kernel⟩
set_option maxRecDepth 20000 in
theorem k_X11_picture_185 : ZF wsX11_picture RX11 185 10 1 RX10 TX10 5 := ⟨rfl, by decide, h_X11_picture_X10, by decide +kernel⟩
set_option maxRecDepth 20000 in
theorem k_X11_picture_215 : ZF wsX11_picture RX11 215 11 13 RX11 TX11 15 := ⟨rfl, by decide, h_X11_picture_X11, by decide +kernel⟩
set_option maxHeartbeats 8000000 in
set_option maxRecDepth 100000 in
theorem c_X11_picture (l : Launch) (D : va_G) (cA : Nat → ClassId) (g : Nat → Nat) (sz : Nat) (h_t : Nat) (a_t : Nat → Nat) (o_t : Ob) (a_t_state : Nat → Nat) (o_t_state : Ob) (a_t_state_wares : Nat → Nat) (o_t_state_wares : Ob) (a_t_state_shelf : Nat → Nat) (o_t_state_shelf : Ob)  (o_t' : Ob) (rv : Int32) (hF : f_X11_picture o_t o_t_state_wares o_t_state_shelf = some (o_t', rv)) : Met l yX11_picture wsX11_picture ({ frames := 1, cells := 0, slots := 0, locals := 21 }) (va_Pc [.ref h_t] (PreW D cA g sz (w_X11_item cA h_t a_t o_t a_t_state o_t_state a_t_state_wares o_t_state_wares a_t_state_shelf o_t_state_shelf))) (va_Qi (fun (r : Int32) (_ : Unit) => r = rv) (PostW D cA sz (w_X11_item cA h_t a_t o_t a_t_state o_t_state a_t_state_wares o_t_state_wares a_t_state_shelf o_t_state_shelf) (w_X11_item cA h_t a_t o_t' a_t_state o_t_state a_t_state_wares o_t_state_wares a_t_state_shelf o_t_state_shelf)) (va_A (w_X11_item cA h_t a_t o_t a_t_state o_t_state a_t_state_wares o_t_state_wares a_t_state_shelf o_t_state_shelf) sz)) 0 0 (va_A (w_X11_item cA h_t a_t o_t a_t_state o_t_state a_t_state_wares o_t_state_wares a_t_state_shelf o_t_state_shelf) sz) := by
  refine z_start (cc := cX11_picture) (maxL := 5) (ret := (some .int)) (lv0 := [(0, .ref h_t)]) (Qc := fun sz => va_Qi (fun (r : Int32) (_ : Unit) => r = rv) (PostW D cA sz (w_X11_item cA h_t a_t o_t a_t_state o_t_state a_t_state_wares o_t_state_wares a_t_state_shelf o_t_state_shelf) (w_X11_item cA h_t a_t o_t' a_t_state o_t_state a_t_state_wares o_t_state_wares a_t_state_shelf o_t_state_shelf)) (va_A (w_X11_item cA h_t a_t o_t a_t_state o_t_state a_t_state_wares o_t_state_wares a_t_state_shelf o_t_state_shelf) sz)) (free := fun sz => va_A (w_X11_item cA h_t a_t o_t a_t_state o_t_state a_t_state_wares o_t_state_wares a_t_state_shelf o_t_state_shelf) sz) (by decide +kernel) rfl rfl (Nat.le_of_ble_eq_true rfl) ?_
  intro p e R s m args below meth c A Q hR hA hQ X hr hin
  unfold f_X11_picture at hF
  refine z_iconst (v := (0 : Int32)) X dX11_picture_0 (by decide) ?_
  refine z_istore_n (lv' := [(1, .int (0 : Int32)), (0, .ref h_t)]) X dX11_picture_1 rfl (by decide) rfl ?_
  refine z_iconst (v := (0 : Int32)) X dX11_picture_2 (by decide) ?_
  refine z_istore_n (lv' := [(2, .int (0 : Int32)), (1, .int (0 : Int32)), (0, .ref h_t)]) X dX11_picture_3 rfl (by decide) rfl ?_
  obtain ⟨o78, k79, hL, hF⟩ := zb2_e hF
  have L117_x : ∀ (o78' : Ob) (k79' : Int32), (o78', k79') = (o78, k79) → ZW p l e R s m args below meth c D A 5 0 0 Q (w_X11_item cA h_t a_t o78' a_t_state o_t_state a_t_state_wares o_t_state_wares a_t_state_shelf o_t_state_shelf) [(0, .ref h_t), (1, .int k79')] 96 [] := by
    intro o78' k79' hz
    cases hz
    obtain ⟨o106, k107, hL, hF⟩ := zb2_e hF
    have L109_x : ∀ (o106' : Ob) (k107' : Int32), (o106', k107') = (o106, k107) → ZW p l e R s m args below meth c D A 5 0 0 Q (w_X11_item cA h_t a_t o106' a_t_state o_t_state a_t_state_wares o_t_state_wares a_t_state_shelf o_t_state_shelf) [(0, .ref h_t), (1, .int k107')] 130 [] := by
      intro o106' k107' hz
      cases hz
      refine z_aload_n X dX11_picture_130 rfl 0 rfl ?_
      refine z_iload_n X dX11_picture_131 rfl 1 rfl ?_
      obtain ⟨o108, eo108, hF⟩ := nx_e hF
      refine z_put (ws' := (w_X11_item cA h_t a_t o108 a_t_state o_t_state a_t_state_wares o_t_state_wares a_t_state_shelf o_t_state_shelf)) X k_X11_picture_215 tyX11 tyX11_ok nmX11 rfl rfl 0 rfl (Nat.le_of_ble_eq_true rfl) (by rw [eo108]; rfl) dX11_picture_132 ?_
      refine z_iload_n X dX11_picture_135 rfl 1 rfl ?_
      cases hF
      exact z_iret X hA hQ hr rfl dX11_picture_136 (Nat.le_refl _) (Nat.le_refl _)
    obtain ⟨B116, hBB116, hL⟩ := zl2_b hL
    have L109 : ∀ (n : Nat) (o104 : Ob) (k105 : Int32), zl2 B116 n o104 k105 = some (o106, k107) → ZW p l e R s m args below meth c D A 5 0 0 Q (w_X11_item cA h_t a_t o104 a_t_state o_t_state a_t_state_wares o_t_state_wares a_t_state_shelf o_t_state_shelf) [(0, .ref h_t), (1, .int k105)] 96 [] := by
      intro n
      induction n with
      | zero => intro o104 k105 hL; cases hL
      | succ n ih =>
        intro o104 k105 hL
        obtain ⟨zz110, hF, hL⟩ := zl2_e hL
        rw [hBB116] at hF
        refine z_iload_n X dX11_picture_96 rfl 1 rfl ?_
        refine z_aload_n X dX11_picture_97 rfl 0 rfl ?_
        refine z_get (v := .ref (a_t 2)) X k_X11_picture_26 0 rfl rfl dX11_picture_98 ?_
        refine z_get (v := .ref (a_t_state 1)) X k_X11_picture_160 2 rfl rfl dX11_picture_101 ?_
        refine z_get (v := .int (o_t_state_shelf 0 0)) X k_X11_picture_163 9 rfl rfl dX11_picture_104 ?_
        have hF := if_e hF
        refine z_icmp_ge (tgt := 130) X dX11_picture_107 (by decide) (fun c115 => ?_) (fun c115 => ?_)
        · have hF := hF.1 c115
          cases hF
          have hL := Option.some.inj hL
          refine z_lv (lv' := [(0, .ref h_t), (1, .int k105)]) [0, 1] rfl ?_
          exact L109_x o104 k105 hL
        · have hF := hF.2 c115
          refine z_iload_n X dX11_picture_110 rfl 1 rfl ?_
          refine z_bipush (v := (20 : Int32)) X dX11_picture_111 (by decide) ?_
          have hF := if_e hF
          refine z_icmp_ge (tgt := 130) X dX11_picture_113 (by decide) (fun c114 => ?_) (fun c114 => ?_)
          · have hF := hF.1 c114
            cases hF
            have hL := Option.some.inj hL
            refine z_lv (lv' := [(0, .ref h_t), (1, .int k105)]) [0, 1] rfl ?_
            exact L109_x o104 k105 hL
          · have hF := hF.2 c114
            refine z_aload_n X dX11_picture_116 rfl 0 rfl ?_
            refine z_get (v := .ref (a_t 12)) X k_X11_picture_84 0 rfl rfl dX11_picture_117 ?_
            refine z_iload_n X dX11_picture_120 rfl 1 rfl ?_
            obtain ⟨x111, ex111, hF⟩ := nx_e hF
            refine z_iinc (v := x111) (lv' := [(1, .int x111), (0, .ref h_t)]) (j := 1) X dX11_picture_121 rfl (by rw [ex111]; rfl) (by decide) rfl ?_
            refine z_bipush (v := (46 : Int32)) X dX11_picture_124 (by decide) ?_
            obtain ⟨g112, hF⟩ := gi_e hF
            obtain ⟨o113, eo113, hF⟩ := nx_e hF
            refine z_iast (ws' := (w_X11_item cA h_t a_t o113 a_t_state o_t_state a_t_state_wares o_t_state_wares a_t_state_shelf o_t_state_shelf)) X 1 rfl g112 (by rw [eo113]; rfl) dX11_picture_126 ?_
            refine z_goto (tgt := 96) X dX11_picture_127 (by decide) ?_
            cases hF
            refine z_lv (lv' := [(0, .ref h_t), (1, .int x111)]) [1, 0] rfl ?_
            exact ih o113 x111 hL
    refine z_lv (lv' := [(0, .ref h_t), (1, .int k79)]) [0, 1] rfl ?_
    exact L109 FU o78 k79 hL
  obtain ⟨B173, hBB173, hL⟩ := zl3_b hL
  have L117 : ∀ (n : Nat) (o75 : Ob) (k76 : Int32) (k77 : Int32), zl3 B173 n o75 k76 k77 = some (o78, k79) → ZW p l e R s m args below meth c D A 5 0 0 Q (w_X11_item cA h_t a_t o75 a_t_state o_t_state a_t_state_wares o_t_state_wares a_t_state_shelf o_t_state_shelf) [(0, .ref h_t), (1, .int k76), (2, .int k77)] 4 [] := by
    intro n
    induction n with
    | zero => intro o75 k76 k77 hL; cases hL
    | succ n ih =>
      intro o75 k76 k77 hL
      obtain ⟨zz118, hF, hL⟩ := zl3_e hL
      rw [hBB173] at hF
      refine z_iload_n X dX11_picture_4 rfl 2 rfl ?_
      refine z_aload_n X dX11_picture_5 rfl 0 rfl ?_
      refine z_get (v := .ref (a_t 2)) X k_X11_picture_26 0 rfl rfl dX11_picture_6 ?_
      refine z_get (v := .ref (a_t_state 0)) X k_X11_picture_127 2 rfl rfl dX11_picture_9 ?_
      refine z_get (v := .int (o_t_state_wares 0 0)) X k_X11_picture_121 4 rfl rfl dX11_picture_12 ?_
      have hF := if_e hF
      refine z_icmp_ge (tgt := 96) X dX11_picture_15 (by decide) (fun c172 => ?_) (fun c172 => ?_)
      · have hF := hF.1 c172
        cases hF
        have hL := Option.some.inj hL
        refine z_lv (lv' := [(0, .ref h_t), (1, .int k76)]) [0, 1] rfl ?_
        exact L117_x o75 k76 hL
      · have hF := hF.2 c172
        refine z_aload_n X dX11_picture_18 rfl 0 rfl ?_
        refine z_get (v := .ref (a_t 2)) X k_X11_picture_26 0 rfl rfl dX11_picture_19 ?_
        refine z_get (v := .ref (a_t_state 1)) X k_X11_picture_160 2 rfl rfl dX11_picture_22 ?_
        refine z_iload_n X dX11_picture_25 rfl 2 rfl ?_
        obtain ⟨r119, hc120, hF⟩ := zb1_e hF
        refine z_Vi (As := [.int k77]) (rest := []) (wc := (w_X8_begin cA (a_t_state 1) a_t_state_shelf o_t_state_shelf)) (wc' := (w_X8_begin cA (a_t_state 1) a_t_state_shelf o_t_state_shelf)) (ws' := (w_X11_item cA h_t a_t o75 a_t_state o_t_state a_t_state_wares o_t_state_wares a_t_state_shelf o_t_state_shelf)) (rv := r119) X (cwV 1 X.2.2.2.2.1 gX11_picture_X8_holds rfl rfl rfl (by decide +kernel) (by rw [hR]; exact ⟨Nat.le_of_ble_eq_true rfl, Nat.le_of_ble_eq_true rfl⟩)) (fun sz => c_X8_holds l D cA g sz (a_t_state 1) a_t_state_shelf o_t_state_shelf k77 r119 hc120) [9, 10, 11, 12] [0, 1, 2, 3, 4, 5, 6, 7, 8, 1000, 1001, 1002, 1003] rfl (by decide) rfl (by decide) rfl rfl rfl rfl rfl rfl (Nat.le_of_ble_eq_true rfl) dX11_picture_26 ⟨Nat.zero_le _, Nat.zero_le _⟩ ?_
        obtain ⟨K124, eK124, hF⟩ := nx_e hF
        have K124_l : ∀ (j123 : Int32), K124 j123 = some zz118 → ZW p l e R s m args below meth c D A 5 0 0 Q (w_X11_item cA h_t a_t o75 a_t_state o_t_state a_t_state_wares o_t_state_wares a_t_state_shelf o_t_state_shelf) [(0, .ref h_t), (1, .int k76), (2, .int k77)] 48 [.int j123] := by
          intro j123 hF
          rw [eK124] at hF
          refine z_istore_n (lv' := [(3, .int j123), (0, .ref h_t), (1, .int k76), (2, .int k77)]) X dX11_picture_48 rfl (by decide) rfl ?_
          refine z_iconst (v := (0 : Int32)) X dX11_picture_49 (by decide) ?_
          refine z_istore (lv' := [(4, .int (0 : Int32)), (3, .int j123), (0, .ref h_t), (1, .int k76), (2, .int k77)]) X dX11_picture_50 (by decide) rfl ?_
          obtain ⟨o156, k157, hL, hF⟩ := zb2_e hF
          have L159_x : ∀ (o156' : Ob) (k157' : Int32), (o156', k157') = (o156, k157) → ZW p l e R s m args below meth c D A 5 0 0 Q (w_X11_item cA h_t a_t o156' a_t_state o_t_state a_t_state_wares o_t_state_wares a_t_state_shelf o_t_state_shelf) [(0, .ref h_t), (1, .int k157'), (2, .int k77)] 90 [] := by
            intro o156' k157' hz
            cases hz
            obtain ⟨x158, ex158, hF⟩ := nx_e hF
            refine z_iinc (v := x158) (lv' := [(2, .int x158), (0, .ref h_t), (1, .int k157)]) (j := 2) X dX11_picture_90 rfl (by rw [ex158]; rfl) (by decide) rfl ?_
            refine z_goto (tgt := 4) X dX11_picture_93 (by decide) ?_
            cases hF
            refine z_lv (lv' := [(0, .ref h_t), (1, .int k157), (2, .int x158)]) [1, 2, 0] rfl ?_
            exact ih o156 k157 x158 hL
          obtain ⟨B169, hBB169, hL⟩ := zl3_b hL
          have L159 : ∀ (n : Nat) (o153 : Ob) (k154 : Int32) (k155 : Int32), zl3 B169 n o153 k154 k155 = some (o156, k157) → ZW p l e R s m args below meth c D A 5 0 0 Q (w_X11_item cA h_t a_t o153 a_t_state o_t_state a_t_state_wares o_t_state_wares a_t_state_shelf o_t_state_shelf) [(0, .ref h_t), (1, .int k154), (2, .int k77), (3, .int j123), (4, .int k155)] 52 [] := by
            intro n
            induction n with
            | zero => intro o153 k154 k155 hL; cases hL
            | succ n ih =>
              intro o153 k154 k155 hL
              obtain ⟨zz160, hF, hL⟩ := zl3_e hL
              rw [hBB169] at hF
              refine z_iload X dX11_picture_52 4 rfl ?_
              refine z_iload_n X dX11_picture_54 rfl 3 rfl ?_
              have hF := if_e hF
              refine z_icmp_ge (tgt := 90) X dX11_picture_55 (by decide) (fun c168 => ?_) (fun c168 => ?_)
              · have hF := hF.1 c168
                cases hF
                have hL := Option.some.inj hL
                refine z_lv (lv' := [(0, .ref h_t), (1, .int k154), (2, .int k77)]) [0, 1, 2] rfl ?_
                exact L159_x o153 k154 hL
              · have hF := hF.2 c168
                refine z_iload_n X dX11_picture_58 rfl 1 rfl ?_
                refine z_bipush (v := (20 : Int32)) X dX11_picture_59 (by decide) ?_
                have hF := if_e hF
                refine z_icmp_ge (tgt := 90) X dX11_picture_61 (by decide) (fun c167 => ?_) (fun c167 => ?_)
                · have hF := hF.1 c167
                  cases hF
                  have hL := Option.some.inj hL
                  refine z_lv (lv' := [(0, .ref h_t), (1, .int k154), (2, .int k77)]) [0, 1, 2] rfl ?_
                  exact L159_x o153 k154 hL
                · have hF := hF.2 c167
                  refine z_aload_n X dX11_picture_64 rfl 0 rfl ?_
                  refine z_get (v := .ref (a_t 12)) X k_X11_picture_84 0 rfl rfl dX11_picture_65 ?_
                  refine z_iload_n X dX11_picture_68 rfl 1 rfl ?_
                  obtain ⟨x161, ex161, hF⟩ := nx_e hF
                  refine z_iinc (v := x161) (lv' := [(1, .int x161), (0, .ref h_t), (2, .int k77), (3, .int j123), (4, .int k155)]) (j := 1) X dX11_picture_69 rfl (by rw [ex161]; rfl) (by decide) rfl ?_
                  refine z_aload_n X dX11_picture_72 rfl 1 rfl ?_
                  refine z_get (v := .ref (a_t 2)) X k_X11_picture_26 0 rfl rfl dX11_picture_73 ?_
                  refine z_get (v := .ref (a_t_state 0)) X k_X11_picture_127 2 rfl rfl dX11_picture_76 ?_
                  refine z_iload_n X dX11_picture_79 rfl 2 rfl ?_
                  obtain ⟨r162, hc163, hF⟩ := zb1_e hF
                  refine z_Vi (As := [.int k77]) (rest := [.int k154, .ref (a_t 12)]) (wc := (w_X10_numberOf cA (a_t_state 0) a_t_state_wares o_t_state_wares)) (wc' := (w_X10_numberOf cA (a_t_state 0) a_t_state_wares o_t_state_wares)) (ws' := (w_X11_item cA h_t a_t o153 a_t_state o_t_state a_t_state_wares o_t_state_wares a_t_state_shelf o_t_state_shelf)) (rv := r162) X (cwV 1 X.2.2.2.2.1 gX11_picture_X10_firstLetter rfl rfl rfl (by decide +kernel) (by rw [hR]; exact ⟨Nat.le_of_ble_eq_true rfl, Nat.le_of_ble_eq_true rfl⟩)) (fun sz => c_X10_firstLetter l D cA g sz (a_t_state 0) a_t_state_wares o_t_state_wares k77 r162 hc163) [4, 5, 6, 7, 8] [0, 1, 2, 3, 1000, 1001, 1002, 1003, 1004, 9, 10, 11, 12] rfl (by decide) rfl (by decide) rfl rfl rfl rfl rfl rfl (Nat.le_of_ble_eq_true rfl) dX11_picture_80 ⟨Nat.zero_le _, Nat.zero_le _⟩ ?_
                  obtain ⟨g164, hF⟩ := gi_e hF
                  obtain ⟨o165, eo165, hF⟩ := nx_e hF
                  refine z_iast (ws' := (w_X11_item cA h_t a_t o165 a_t_state o_t_state a_t_state_wares o_t_state_wares a_t_state_shelf o_t_state_shelf)) X 1 rfl g164 (by rw [eo165]; rfl) dX11_picture_83 ?_
                  obtain ⟨x166, ex166, hF⟩ := nx_e hF
                  refine z_iinc (v := x166) (lv' := [(4, .int x166), (1, .int x161), (0, .ref h_t), (2, .int k77), (3, .int j123)]) (j := 4) X dX11_picture_84 rfl (by rw [ex166]; rfl) (by decide) rfl ?_
                  refine z_goto (tgt := 52) X dX11_picture_87 (by decide) ?_
                  cases hF
                  refine z_lv (lv' := [(0, .ref h_t), (1, .int x161), (2, .int k77), (3, .int j123), (4, .int x166)]) [2, 1, 3, 4, 0] rfl ?_
                  exact ih o165 x161 x166 hL
          refine z_lv (lv' := [(0, .ref h_t), (1, .int k76), (2, .int k77), (3, .int j123), (4, .int (0 : Int32))]) [2, 3, 4, 1, 0] rfl ?_
          exact L159 FU o75 k76 (0 : Int32) hL
        have hF := if_e hF
        refine z_if_eq (tgt := 47) X dX11_picture_29 (by decide) (fun c171 => ?_) (fun c171 => ?_)
        · have hF := hF.1 c171
          refine z_iconst (v := (0 : Int32)) X dX11_picture_47 (by decide) ?_
          refine z_lv (lv' := [(0, .ref h_t), (1, .int k76), (2, .int k77)]) [0, 1, 2] rfl ?_
          exact K124_l (0 : Int32) hF
        · have hF := hF.2 c171
          refine z_aload_n X dX11_picture_32 rfl 0 rfl ?_
          refine z_get (v := .ref (a_t 2)) X k_X11_picture_26 0 rfl rfl dX11_picture_33 ?_
          refine z_get (v := .ref (a_t_state 0)) X k_X11_picture_127 2 rfl rfl dX11_picture_36 ?_
          refine z_get (v := .ref (a_t_state_wares 1)) X k_X11_picture_185 4 rfl rfl dX11_picture_39 ?_
          refine z_iload_n X dX11_picture_42 rfl 2 rfl ?_
          obtain ⟨g170, hF⟩ := gi_e hF
          refine z_iald X 5 rfl g170 dX11_picture_43 ?_
          refine z_goto (tgt := 48) X dX11_picture_44 (by decide) ?_
          refine z_lv (lv' := [(0, .ref h_t), (1, .int k76), (2, .int k77)]) [0, 1, 2] rfl ?_
          exact K124_l (o_t_state_wares 1 (Int32.toNatClampNeg k77)) hF
  refine z_lv (lv' := [(0, .ref h_t), (1, .int (0 : Int32)), (2, .int (0 : Int32))]) [2, 1, 0] rfl ?_
  exact L117 FU o_t (0 : Int32) (0 : Int32) hL
abbrev w_X11_byteAt (cA : Nat → ClassId) (h_t : Nat) (a_t : Nat → Nat) (o_t : Ob) : va_W := [(h_t, .inr (11, [.ref (a_t 0), .ref (a_t 1), .ref (a_t 2), .ref (a_t 3), .ref (a_t 4), .ref (a_t 5), .ref (a_t 6), .ref (a_t 7), .ref (a_t 8), .ref (a_t 9), .ref (a_t 10), .ref (a_t 11), .ref (a_t 12), .int (o_t 13 0), .int (o_t 14 0)])), (a_t 12, .inl (cA 0, 20, .inl (o_t 12)))]
set_option maxRecDepth 20000 in
theorem h_X11_byteAt_X11 : ∀ w ∈ wsX110, w ∈ wsX11_byteAt := by decide +kernel
set_option maxRecDepth 20000 in
theorem k_X11_byteAt_84 : ZF wsX11_byteAt RX11 84 11 12 RX11 TX11 15 := ⟨rfl, by decide, h_X11_byteAt_X11, by decide +kernel⟩
set_option maxRecDepth 20000 in
theorem k_X11_byteAt_215 : ZF wsX11_byteAt RX11 215 11 13 RX11 TX11 15 := ⟨rfl, by decide, h_X11_byteAt_X11, by decide +kernel⟩
set_option maxHeartbeats 8000000 in
set_option maxRecDepth 100000 in
theorem c_X11_byteAt (l : Launch) (D : va_G) (cA : Nat → ClassId) (g : Nat → Nat) (sz : Nat) (h_t : Nat) (a_t : Nat → Nat) (o_t : Ob) (v1 : Int32) (rv : Int32) (hF : f_X11_byteAt o_t v1 = some rv) : Met l yX11_byteAt wsX11_byteAt ({ frames := 0, cells := 0, slots := 0, locals := 0 }) (va_Pc [.ref h_t, .int v1] (PreW D cA g sz (w_X11_byteAt cA h_t a_t o_t))) (va_Qi (fun (r : Int32) (_ : Unit) => r = rv) (PostW D cA sz (w_X11_byteAt cA h_t a_t o_t) (w_X11_byteAt cA h_t a_t o_t)) (va_A (w_X11_byteAt cA h_t a_t o_t) sz)) 0 0 (va_A (w_X11_byteAt cA h_t a_t o_t) sz) := by
  refine z_start (cc := cX11_byteAt) (maxL := 2) (ret := (some .int)) (lv0 := [(0, .ref h_t), (1, .int v1)]) (Qc := fun sz => va_Qi (fun (r : Int32) (_ : Unit) => r = rv) (PostW D cA sz (w_X11_byteAt cA h_t a_t o_t) (w_X11_byteAt cA h_t a_t o_t)) (va_A (w_X11_byteAt cA h_t a_t o_t) sz)) (free := fun sz => va_A (w_X11_byteAt cA h_t a_t o_t) sz) (by decide +kernel) rfl rfl (Nat.le_of_ble_eq_true rfl) ?_
  intro p e R s m args below meth c A Q hR hA hQ X hr hin
  unfold f_X11_byteAt at hF
  refine z_iload_n X dX11_byteAt_0 rfl 1 rfl ?_
  have hF := if_e hF
  refine z_if_lt (tgt := 21) X dX11_byteAt_1 (by decide) (fun c3 => ?_) (fun c3 => ?_)
  · have hF := hF.1 c3
    refine z_iconst (v := (-1 : Int32)) X dX11_byteAt_21 (by decide) ?_
    cases hF
    exact z_iret X hA hQ hr rfl dX11_byteAt_22 (Nat.le_refl _) (Nat.le_refl _)
  · have hF := hF.2 c3
    refine z_iload_n X dX11_byteAt_4 rfl 1 rfl ?_
    refine z_aload_n X dX11_byteAt_5 rfl 0 rfl ?_
    refine z_get (v := .int (o_t 13 0)) X k_X11_byteAt_215 0 rfl rfl dX11_byteAt_6 ?_
    have hF := if_e hF
    refine z_icmp_ge (tgt := 21) X dX11_byteAt_9 (by decide) (fun c2 => ?_) (fun c2 => ?_)
    · have hF := hF.1 c2
      refine z_iconst (v := (-1 : Int32)) X dX11_byteAt_21 (by decide) ?_
      cases hF
      exact z_iret X hA hQ hr rfl dX11_byteAt_22 (Nat.le_refl _) (Nat.le_refl _)
    · have hF := hF.2 c2
      refine z_aload_n X dX11_byteAt_12 rfl 0 rfl ?_
      refine z_get (v := .ref (a_t 12)) X k_X11_byteAt_84 0 rfl rfl dX11_byteAt_13 ?_
      refine z_iload_n X dX11_byteAt_16 rfl 1 rfl ?_
      obtain ⟨g1, hF⟩ := gi_e hF
      refine z_iald X 1 rfl g1 dX11_byteAt_17 ?_
      refine z_goto (tgt := 22) X dX11_byteAt_18 (by decide) ?_
      cases hF
      exact z_iret X hA hQ hr rfl dX11_byteAt_22 (Nat.le_refl _) (Nat.le_refl _)
set_option maxRecDepth 20000 in
theorem h_X11_draw_X11 : ∀ w ∈ wsX110, w ∈ wsX11_draw := by decide +kernel
set_option maxRecDepth 20000 in
theorem k_X11_draw_218 : ZF wsX11_draw RX11 218 11 14 RX11 TX11 15 := ⟨rfl, by decide, h_X11_draw_X11, by decide +kernel⟩
set_option maxRecDepth 20000 in
theorem k_X11_draw_c227 : Cond.constant RX11 227 (1103515245) ∈ wsX11_draw := by decide +kernel
set_option maxHeartbeats 8000000 in
set_option maxRecDepth 100000 in
theorem c_X11_draw (l : Launch) (D : va_G) (cA : Nat → ClassId) (g : Nat → Nat) (sz : Nat) (h_t : Nat) (a_t : Nat → Nat) (o_t : Ob) (v1 : Int32) (o_t' : Ob) (rv : Int32) (hF : f_X11_draw o_t v1 = some (o_t', rv)) : Met l yX11_draw wsX11_draw ({ frames := 0, cells := 0, slots := 0, locals := 0 }) (va_Pc [.ref h_t, .int v1] (PreW D cA g sz (w_X11_byteAt cA h_t a_t o_t))) (va_Qi (fun (r : Int32) (_ : Unit) => r = rv) (PostW D cA sz (w_X11_byteAt cA h_t a_t o_t) (w_X11_byteAt cA h_t a_t o_t')) (va_A (w_X11_byteAt cA h_t a_t o_t) sz)) 0 0 (va_A (w_X11_byteAt cA h_t a_t o_t) sz) := by
  refine z_start (cc := cX11_draw) (maxL := 2) (ret := (some .int)) (lv0 := [(0, .ref h_t), (1, .int v1)]) (Qc := fun sz => va_Qi (fun (r : Int32) (_ : Unit) => r = rv) (PostW D cA sz (w_X11_byteAt cA h_t a_t o_t) (w_X11_byteAt cA h_t a_t o_t')) (va_A (w_X11_byteAt cA h_t a_t o_t) sz)) (free := fun sz => va_A (w_X11_byteAt cA h_t a_t o_t) sz) (by decide +kernel) rfl rfl (Nat.le_of_ble_eq_true rfl) ?_
  intro p e R s m args below meth c A Q hR hA hQ X hr hin
  unfold f_X11_draw at hF
  refine z_aload_n X dX11_draw_0 rfl 0 rfl ?_
  refine z_aload_n X dX11_draw_1 rfl 0 rfl ?_
  refine z_get (v := .int (o_t 14 0)) X k_X11_draw_218 0 rfl rfl dX11_draw_2 ?_
  refine z_ldc X k_X11_draw_c227 dX11_draw_5 ?_
  refine z_imul X dX11_draw_7 ?_
  refine z_sipush (v := (12345 : Int32)) X dX11_draw_8 (by decide) ?_
  refine z_iadd X dX11_draw_11 ?_
  obtain ⟨o1, eo1, hF⟩ := nx_e hF
  refine z_put (ws' := (w_X11_byteAt cA h_t a_t o1)) X k_X11_draw_218 tyX11 tyX11_ok nmX11 rfl rfl 0 rfl (Nat.le_of_ble_eq_true rfl) (by rw [eo1]; rfl) dX11_draw_12 ?_
  refine z_iload_n X dX11_draw_15 rfl 1 rfl ?_
  refine z_iconst (v := (1 : Int32)) X dX11_draw_16 (by decide) ?_
  have hF := if_e hF
  refine z_icmp_ge (tgt := 24) X dX11_draw_17 (by decide) (fun c3 => ?_) (fun c3 => ?_)
  · have hF := hF.1 c3
    refine z_aload_n X dX11_draw_24 rfl 0 rfl ?_
    refine z_get (v := .int (o1 14 0)) X k_X11_draw_218 0 rfl rfl dX11_draw_25 ?_
    refine z_bipush (v := (8 : Int32)) X dX11_draw_28 (by decide) ?_
    refine z_iushr X dX11_draw_30 ?_
    refine z_iload_n X dX11_draw_31 rfl 1 rfl ?_
    obtain ⟨g2, hF⟩ := gn_e hF
    refine z_irem X g2 dX11_draw_32 ?_
    cases hF
    exact z_iret X hA hQ hr rfl dX11_draw_33 (Nat.le_refl _) (Nat.le_refl _)
  · have hF := hF.2 c3
    refine z_iconst (v := (0 : Int32)) X dX11_draw_20 (by decide) ?_
    refine z_goto (tgt := 33) X dX11_draw_21 (by decide) ?_
    cases hF
    exact z_iret X hA hQ hr rfl dX11_draw_33 (Nat.le_refl _) (Nat.le_refl _)
abbrev w_X11_drawItem (cA : Nat → ClassId) (h_t : Nat) (a_t : Nat → Nat) (o_t : Ob) (a_t_state : Nat → Nat) (o_t_state : Ob) (a_t_state_wares : Nat → Nat) (o_t_state_wares : Ob) : va_W := [(h_t, .inr (11, [.ref (a_t 0), .ref (a_t 1), .ref (a_t 2), .ref (a_t 3), .ref (a_t 4), .ref (a_t 5), .ref (a_t 6), .ref (a_t 7), .ref (a_t 8), .ref (a_t 9), .ref (a_t 10), .ref (a_t 11), .ref (a_t 12), .int (o_t 13 0), .int (o_t 14 0)])), (a_t 12, .inl (cA 0, 20, .inl (o_t 12))), ((a_t 2), .inr (9, [.ref (a_t_state 0), .ref (a_t_state 1), .ref (a_t_state 2), .ref (a_t_state 3), .int (o_t_state 4 0), .int (o_t_state 5 0), .int (o_t_state 6 0)])), (a_t_state 3, .inl (cA 4, 3, .inr (.inr (.inr (.inr (bk (a_t_state 20) (a_t_state 21) (a_t_state 22))))))), ((a_t_state 0), .inr (10, [.int (o_t_state_wares 0 0), .ref (a_t_state_wares 1), .ref (a_t_state_wares 2), .ref (a_t_state_wares 3), .ref (a_t_state_wares 4)])), (a_t_state_wares 1, .inl (cA 0, 8, .inl (o_t_state_wares 1))), (a_t_state_wares 2, .inl (cA 0, 8, .inl (o_t_state_wares 2))), (a_t_state_wares 3, .inl (cA 0, 8, .inl (o_t_state_wares 3))), (a_t_state_wares 4, .inl (cA 0, 8, .inl (o_t_state_wares 4)))]
set_option maxRecDepth 20000 in
theorem h_X11_drawItem_X11 : ∀ w ∈ wsX110, w ∈ wsX11_drawItem := by decide +kernel
set_option maxRecDepth 20000 in
theorem k_X11_drawItem_26 : ZF wsX11_drawItem RX11 26 11 2 RX11 TX11 15 := ⟨rfl, by decide, h_X11_drawItem_X11, by decide +kernel⟩
set_option maxRecDepth 20000 in
theorem h_X11_drawItem_X10 : ∀ w ∈ wsX100, w ∈ wsX11_drawItem := by decide +kernel
set_option maxRecDepth 20000 in
theorem k_X11_drawItem_121 : ZF wsX11_drawItem RX11 121 10 0 RX10 TX10 5 := ⟨rfl, by decide, h_X11_drawItem_X10, by decide +kernel⟩
set_option maxRecDepth 20000 in
theorem h_X11_drawItem_X9 : ∀ w ∈ wsX90, w ∈ wsX11_drawItem := by decide +kernel
set_option maxRecDepth 20000 in
theorem k_X11_drawItem_127 : ZF wsX11_drawItem RX11 127 9 0 RX9 TX9 7 := ⟨rfl, by decide, h_X11_drawItem_X9, by decide +kernel⟩
set_option maxHeartbeats 8000000 in
set_option maxRecDepth 100000 in
theorem c_X11_drawItem (l : Launch) (D : va_G) (cA : Nat → ClassId) (g : Nat → Nat) (sz : Nat) (h_t : Nat) (a_t : Nat → Nat) (o_t : Ob) (a_t_state : Nat → Nat) (o_t_state : Ob) (a_t_state_wares : Nat → Nat) (o_t_state_wares : Ob)  (o_t' : Ob) (rv : Int32) (hF : f_X11_drawItem o_t o_t_state_wares = some (o_t', rv)) : Met l yX11_drawItem wsX11_drawItem ({ frames := 1, cells := 0, slots := 0, locals := 21 }) (va_Pc [.ref h_t] (PreW D cA g sz (w_X11_drawItem cA h_t a_t o_t a_t_state o_t_state a_t_state_wares o_t_state_wares))) (va_Qi (fun (r : Int32) (_ : Unit) => r = rv) (PostW D cA sz (w_X11_drawItem cA h_t a_t o_t a_t_state o_t_state a_t_state_wares o_t_state_wares) (w_X11_drawItem cA h_t a_t o_t' a_t_state o_t_state a_t_state_wares o_t_state_wares)) (va_A (w_X11_drawItem cA h_t a_t o_t a_t_state o_t_state a_t_state_wares o_t_state_wares) sz)) 0 0 (va_A (w_X11_drawItem cA h_t a_t o_t a_t_state o_t_state a_t_state_wares o_t_state_wares) sz) := by
  refine z_start (cc := cX11_drawItem) (maxL := 3) (ret := (some .int)) (lv0 := [(0, .ref h_t)]) (Qc := fun sz => va_Qi (fun (r : Int32) (_ : Unit) => r = rv) (PostW D cA sz (w_X11_drawItem cA h_t a_t o_t a_t_state o_t_state a_t_state_wares o_t_state_wares) (w_X11_drawItem cA h_t a_t o_t' a_t_state o_t_state a_t_state_wares o_t_state_wares)) (va_A (w_X11_drawItem cA h_t a_t o_t a_t_state o_t_state a_t_state_wares o_t_state_wares) sz)) (free := fun sz => va_A (w_X11_drawItem cA h_t a_t o_t a_t_state o_t_state a_t_state_wares o_t_state_wares) sz) (by decide +kernel) rfl rfl (Nat.le_of_ble_eq_true rfl) ?_
  intro p e R s m args below meth c A Q hR hA hQ X hr hin
  unfold f_X11_drawItem at hF
  refine z_aload_n X dX11_drawItem_0 rfl 0 rfl ?_
  refine z_iconst (v := (3 : Int32)) X dX11_drawItem_1 (by decide) ?_
  obtain ⟨o1, r2, hc3, hF⟩ := zb2_e hF
  refine z_Vi (As := [.int (3 : Int32)]) (rest := []) (wc := (w_X11_byteAt cA h_t a_t o_t)) (wc' := (w_X11_byteAt cA h_t a_t o1)) (ws' := (w_X11_drawItem cA h_t a_t o1 a_t_state o_t_state a_t_state_wares o_t_state_wares)) (rv := r2) X (cwV 1 X.2.2.2.2.1 gX11_drawItem_X11_draw rfl rfl rfl (by decide +kernel) (by rw [hR]; exact ⟨Nat.le_of_ble_eq_true rfl, Nat.le_of_ble_eq_true rfl⟩)) (fun sz => c_X11_draw l D cA g sz h_t a_t o_t (3 : Int32) o1 r2 hc3) [0, 1] [1000, 1001, 2, 3, 4, 5, 6, 7, 8] rfl (by decide) rfl (by decide) rfl rfl rfl rfl rfl rfl (Nat.le_of_ble_eq_true rfl) dX11_drawItem_2 ⟨Nat.zero_le _, Nat.zero_le _⟩ ?_
  obtain ⟨K6, eK6, hF⟩ := nx_e hF
  have K6_l : ∀ (j5 : Int32), K6 j5 = some (o_t', rv) → ZW p l e R s m args below meth c D A 3 0 0 Q (w_X11_drawItem cA h_t a_t o1 a_t_state o_t_state a_t_state_wares o_t_state_wares) [(0, .ref h_t)] 13 [.int j5] := by
    intro j5 hF
    rw [eK6] at hF
    refine z_istore_n (lv' := [(1, .int j5), (0, .ref h_t)]) X dX11_drawItem_13 rfl (by decide) rfl ?_
    refine z_aload_n X dX11_drawItem_14 rfl 1 rfl ?_
    refine z_aload_n X dX11_drawItem_15 rfl 1 rfl ?_
    refine z_get (v := .ref (a_t 2)) X k_X11_drawItem_26 0 rfl rfl dX11_drawItem_16 ?_
    refine z_get (v := .ref (a_t_state 0)) X k_X11_drawItem_127 2 rfl rfl dX11_drawItem_19 ?_
    refine z_get (v := .int (o_t_state_wares 0 0)) X k_X11_drawItem_121 4 rfl rfl dX11_drawItem_22 ?_
    obtain ⟨o7, r8, hc9, hF⟩ := zb2_e hF
    refine z_Vi (As := [.int (o_t_state_wares 0 0)]) (rest := []) (wc := (w_X11_byteAt cA h_t a_t o1)) (wc' := (w_X11_byteAt cA h_t a_t o7)) (ws' := (w_X11_drawItem cA h_t a_t o7 a_t_state o_t_state a_t_state_wares o_t_state_wares)) (rv := r8) X (cwV 1 X.2.2.2.2.1 gX11_drawItem_X11_draw rfl rfl rfl (by decide +kernel) (by rw [hR]; exact ⟨Nat.le_of_ble_eq_true rfl, Nat.le_of_ble_eq_true rfl⟩)) (fun sz => c_X11_draw l D cA g sz h_t a_t o1 (o_t_state_wares 0 0) o7 r8 hc9) [0, 1] [1000, 1001, 2, 3, 4, 5, 6, 7, 8] rfl (by decide) rfl (by decide) rfl rfl rfl rfl rfl rfl (Nat.le_of_ble_eq_true rfl) dX11_drawItem_25 ⟨Nat.zero_le _, Nat.zero_le _⟩ ?_
    refine z_istore_n (lv' := [(2, .int r8), (1, .int j5), (0, .ref h_t)]) X dX11_drawItem_28 rfl (by decide) rfl ?_
    refine z_iload_n X dX11_drawItem_29 rfl 1 rfl ?_
    have hF := if_e hF
    refine z_if_eq (tgt := 37) X dX11_drawItem_30 (by decide) (fun c13 => ?_) (fun c13 => ?_)
    · have hF := hF.1 c13
      refine z_aload_n X dX11_drawItem_37 rfl 2 rfl ?_
      refine z_iload_n X dX11_drawItem_38 rfl 0 rfl ?_
      refine z_iconst (v := (1 : Int32)) X dX11_drawItem_39 (by decide) ?_
      refine z_iadd X dX11_drawItem_40 ?_
      obtain ⟨o10, r11, hc12, hF⟩ := zb2_e hF
      refine z_Vi (As := [.int (r8 + (1 : Int32))]) (rest := []) (wc := (w_X11_byteAt cA h_t a_t o7)) (wc' := (w_X11_byteAt cA h_t a_t o10)) (ws' := (w_X11_drawItem cA h_t a_t o10 a_t_state o_t_state a_t_state_wares o_t_state_wares)) (rv := r11) X (cwV 1 X.2.2.2.2.1 gX11_drawItem_X11_draw rfl rfl rfl (by decide +kernel) (by rw [hR]; exact ⟨Nat.le_of_ble_eq_true rfl, Nat.le_of_ble_eq_true rfl⟩)) (fun sz => c_X11_draw l D cA g sz h_t a_t o7 (r8 + (1 : Int32)) o10 r11 hc12) [0, 1] [1000, 1001, 2, 3, 4, 5, 6, 7, 8] rfl (by decide) rfl (by decide) rfl rfl rfl rfl rfl rfl (Nat.le_of_ble_eq_true rfl) dX11_drawItem_41 ⟨Nat.zero_le _, Nat.zero_le _⟩ ?_
      cases hF
      exact z_iret X hA hQ hr rfl dX11_drawItem_44 (Nat.le_refl _) (Nat.le_refl _)
    · have hF := hF.2 c13
      refine z_iload_n X dX11_drawItem_33 rfl 0 rfl ?_
      refine z_goto (tgt := 44) X dX11_drawItem_34 (by decide) ?_
      cases hF
      exact z_iret X hA hQ hr rfl dX11_drawItem_44 (Nat.le_refl _) (Nat.le_refl _)
  have hF := if_e hF
  refine z_if_ne (tgt := 12) X dX11_drawItem_5 (by decide) (fun c14 => ?_) (fun c14 => ?_)
  · have hF := hF.2 c14
    refine z_iconst (v := (0 : Int32)) X dX11_drawItem_12 (by decide) ?_
    refine z_lv (lv' := [(0, .ref h_t)]) [0] rfl ?_
    exact K6_l (0 : Int32) hF
  · have hF := hF.1 c14
    refine z_iconst (v := (1 : Int32)) X dX11_drawItem_8 (by decide) ?_
    refine z_goto (tgt := 13) X dX11_drawItem_9 (by decide) ?_
    refine z_lv (lv' := [(0, .ref h_t)]) [0] rfl ?_
    exact K6_l (1 : Int32) hF
abbrev w_X11_log (cA : Nat → ClassId) (h_t : Nat) (a_t : Nat → Nat) (o_t : Ob) (a_t_state : Nat → Nat) (o_t_state : Ob) (a_t_state_log : Nat → Nat) (o_t_state_log : Ob) : va_W := [(h_t, .inr (11, [.ref (a_t 0), .ref (a_t 1), .ref (a_t 2), .ref (a_t 3), .ref (a_t 4), .ref (a_t 5), .ref (a_t 6), .ref (a_t 7), .ref (a_t 8), .ref (a_t 9), .ref (a_t 10), .ref (a_t 11), .ref (a_t 12), .int (o_t 13 0), .int (o_t 14 0)])), (a_t 12, .inl (cA 0, 20, .inl (o_t 12))), ((a_t 2), .inr (9, [.ref (a_t_state 0), .ref (a_t_state 1), .ref (a_t_state 2), .ref (a_t_state 3), .int (o_t_state 4 0), .int (o_t_state 5 0), .int (o_t_state 6 0)])), (a_t_state 3, .inl (cA 4, 3, .inr (.inr (.inr (.inr (bk (a_t_state 20) (a_t_state 21) (a_t_state 22))))))), ((a_t_state 2), .inr (4, [.int (o_t_state_log 0 0), .ref (a_t_state_log 1), .ref (a_t_state_log 2), .ref (a_t_state_log 3), .ref (a_t_state_log 4)])), (a_t_state_log 1, .inl (cA 0, 40, .inl (o_t_state_log 1))), (a_t_state_log 2, .inl (cA 0, 40, .inl (o_t_state_log 2))), (a_t_state_log 3, .inl (cA 0, 40, .inl (o_t_state_log 3))), (a_t_state_log 4, .inl (cA 0, 320, .inl (o_t_state_log 4)))]
set_option maxRecDepth 20000 in
theorem h_X11_log_X11 : ∀ w ∈ wsX110, w ∈ wsX11_log := by decide +kernel
set_option maxRecDepth 20000 in
theorem k_X11_log_26 : ZF wsX11_log RX11 26 11 2 RX11 TX11 15 := ⟨rfl, by decide, h_X11_log_X11, by decide +kernel⟩
set_option maxRecDepth 20000 in
theorem h_X11_log_X9 : ∀ w ∈ wsX90, w ∈ wsX11_log := by decide +kernel
set_option maxRecDepth 20000 in
theorem k_X11_log_143 : ZF wsX11_log RX11 143 9 2 RX9 TX9 7 := ⟨rfl, by decide, h_X11_log_X9, by decide +kernel⟩
set_option maxRecDepth 20000 in
theorem h_X11_log_X4 : ∀ w ∈ wsX40, w ∈ wsX11_log := by decide +kernel
set_option maxRecDepth 20000 in
theorem k_X11_log_229 : ZF wsX11_log RX11 229 4 1 RX4 TX4 5 := ⟨rfl, by decide, h_X11_log_X4, by decide +kernel⟩
set_option maxRecDepth 20000 in
theorem k_X11_log_232 : ZF wsX11_log RX11 232 4 2 RX4 TX4 5 := ⟨rfl, by decide, h_X11_log_X4, by decide +kernel⟩
set_option maxRecDepth 20000 in
theorem k_X11_log_234 : ZF wsX11_log RX11 234 4 3 RX4 TX4 5 := ⟨rfl, by decide, h_X11_log_X4, by decide +kernel⟩
set_option maxHeartbeats 8000000 in
set_option maxRecDepth 100000 in
theorem c_X11_log (l : Launch) (D : va_G) (cA : Nat → ClassId) (g : Nat → Nat) (sz : Nat) (h_t : Nat) (a_t : Nat → Nat) (o_t : Ob) (a_t_state : Nat → Nat) (o_t_state : Ob) (a_t_state_log : Nat → Nat) (o_t_state_log : Ob) (v1 : Int32) (v2 : Int32) (rv : Int32) (hF : f_X11_log o_t_state_log v1 v2 = some rv) : Met l yX11_log wsX11_log ({ frames := 1, cells := 0, slots := 0, locals := 21 }) (va_Pc [.ref h_t, .int v1, .int v2] (PreW D cA g sz (w_X11_log cA h_t a_t o_t a_t_state o_t_state a_t_state_log o_t_state_log))) (va_Qi (fun (r : Int32) (_ : Unit) => r = rv) (PostW D cA sz (w_X11_log cA h_t a_t o_t a_t_state o_t_state a_t_state_log o_t_state_log) (w_X11_log cA h_t a_t o_t a_t_state o_t_state a_t_state_log o_t_state_log)) (va_A (w_X11_log cA h_t a_t o_t a_t_state o_t_state a_t_state_log o_t_state_log) sz)) 0 0 (va_A (w_X11_log cA h_t a_t o_t a_t_state o_t_state a_t_state_log o_t_state_log) sz) := by
  refine z_start (cc := cX11_log) (maxL := 3) (ret := (some .int)) (lv0 := [(0, .ref h_t), (1, .int v1), (2, .int v2)]) (Qc := fun sz => va_Qi (fun (r : Int32) (_ : Unit) => r = rv) (PostW D cA sz (w_X11_log cA h_t a_t o_t a_t_state o_t_state a_t_state_log o_t_state_log) (w_X11_log cA h_t a_t o_t a_t_state o_t_state a_t_state_log o_t_state_log)) (va_A (w_X11_log cA h_t a_t o_t a_t_state o_t_state a_t_state_log o_t_state_log) sz)) (free := fun sz => va_A (w_X11_log cA h_t a_t o_t a_t_state o_t_state a_t_state_log o_t_state_log) sz) (by decide +kernel) rfl rfl (Nat.le_of_ble_eq_true rfl) ?_
  intro p e R s m args below meth c A Q hR hA hQ X hr hin
  unfold f_X11_log at hF
  refine z_aload_n X dX11_log_0 rfl 0 rfl ?_
  refine z_get (v := .ref (a_t 2)) X k_X11_log_26 0 rfl rfl dX11_log_1 ?_
  refine z_get (v := .ref (a_t_state 2)) X k_X11_log_143 2 rfl rfl dX11_log_4 ?_
  refine z_iload_n X dX11_log_7 rfl 1 rfl ?_
  obtain ⟨r1, hc2, hF⟩ := zb1_e hF
  refine z_Vi (As := [.int v1]) (rest := []) (wc := (w_X4_has cA (a_t_state 2) a_t_state_log o_t_state_log)) (wc' := (w_X4_has cA (a_t_state 2) a_t_state_log o_t_state_log)) (ws' := (w_X11_log cA h_t a_t o_t a_t_state o_t_state a_t_state_log o_t_state_log)) (rv := r1) X (cwV 1 X.2.2.2.2.1 gX11_log_X4_has rfl rfl rfl (by decide +kernel) (by rw [hR]; exact ⟨Nat.le_of_ble_eq_true rfl, Nat.le_of_ble_eq_true rfl⟩)) (fun sz => c_X4_has l D cA g sz (a_t_state 2) a_t_state_log o_t_state_log v1 r1 hc2) [4, 5, 6, 7, 8] [0, 1, 2, 3, 1000, 1001, 1002, 1003, 1004] rfl (by decide) rfl (by decide) rfl rfl rfl rfl rfl rfl (Nat.le_of_ble_eq_true rfl) dX11_log_8 ⟨Nat.zero_le _, Nat.zero_le _⟩ ?_
  have hF := if_e hF
  refine z_if_ne (tgt := 16) X dX11_log_11 (by decide) (fun c9 => ?_) (fun c9 => ?_)
  · have hF := hF.2 c9
    refine z_iload_n X dX11_log_16 rfl 2 rfl ?_
    have hF := if_e hF
    by_cases c4 : v2 = (0 : Int32)
    · have hF := hF.1 c4
      refine z_tableIn (tgt := 44) X dX11_log_17 (by rw [c4]; decide) (by rw [c4]; decide) (by rw [c4]; rfl) (by decide) ?_
      refine z_aload_n X dX11_log_44 rfl 0 rfl ?_
      refine z_get (v := .ref (a_t 2)) X k_X11_log_26 0 rfl rfl dX11_log_45 ?_
      refine z_get (v := .ref (a_t_state 2)) X k_X11_log_143 2 rfl rfl dX11_log_48 ?_
      refine z_get (v := .ref (a_t_state_log 1)) X k_X11_log_229 4 rfl rfl dX11_log_51 ?_
      refine z_iload_n X dX11_log_54 rfl 1 rfl ?_
      obtain ⟨g3, hF⟩ := gi_e hF
      refine z_iald X 5 rfl g3 dX11_log_55 ?_
      cases hF
      exact z_iret X hA hQ hr rfl dX11_log_56 (Nat.le_refl _) (Nat.le_refl _)
    have hF := hF.2 c4
    have tc4 : Int32.toInt v2 ≠ 0 := ne_t c4
    have hF := if_e hF
    by_cases c6 : v2 = (1 : Int32)
    · have hF := hF.1 c6
      refine z_tableIn (tgt := 57) X dX11_log_17 (by rw [c6]; decide) (by rw [c6]; decide) (by rw [c6]; rfl) (by decide) ?_
      refine z_aload_n X dX11_log_57 rfl 0 rfl ?_
      refine z_get (v := .ref (a_t 2)) X k_X11_log_26 0 rfl rfl dX11_log_58 ?_
      refine z_get (v := .ref (a_t_state 2)) X k_X11_log_143 2 rfl rfl dX11_log_61 ?_
      refine z_get (v := .ref (a_t_state_log 2)) X k_X11_log_232 4 rfl rfl dX11_log_64 ?_
      refine z_iload_n X dX11_log_67 rfl 1 rfl ?_
      obtain ⟨g5, hF⟩ := gi_e hF
      refine z_iald X 6 rfl g5 dX11_log_68 ?_
      cases hF
      exact z_iret X hA hQ hr rfl dX11_log_69 (Nat.le_refl _) (Nat.le_refl _)
    have hF := hF.2 c6
    have tc6 : Int32.toInt v2 ≠ 1 := ne_t c6
    have hF := if_e hF
    by_cases c8 : v2 = (2 : Int32)
    · have hF := hF.1 c8
      refine z_tableIn (tgt := 70) X dX11_log_17 (by rw [c8]; decide) (by rw [c8]; decide) (by rw [c8]; rfl) (by decide) ?_
      refine z_aload_n X dX11_log_70 rfl 0 rfl ?_
      refine z_get (v := .ref (a_t 2)) X k_X11_log_26 0 rfl rfl dX11_log_71 ?_
      refine z_get (v := .ref (a_t_state 2)) X k_X11_log_143 2 rfl rfl dX11_log_74 ?_
      refine z_get (v := .ref (a_t_state_log 3)) X k_X11_log_234 4 rfl rfl dX11_log_77 ?_
      refine z_iload_n X dX11_log_80 rfl 1 rfl ?_
      obtain ⟨g7, hF⟩ := gi_e hF
      refine z_iald X 7 rfl g7 dX11_log_81 ?_
      cases hF
      exact z_iret X hA hQ hr rfl dX11_log_82 (Nat.le_refl _) (Nat.le_refl _)
    have hF := hF.2 c8
    have tc8 : Int32.toInt v2 ≠ 2 := ne_t c8
    refine z_tableOut (tgt := 83) X dX11_log_17 (by omega) (by decide) ?_
    refine z_iconst (v := (-1 : Int32)) X dX11_log_83 (by decide) ?_
    cases hF
    exact z_iret X hA hQ hr rfl dX11_log_84 (Nat.le_refl _) (Nat.le_refl _)
  · have hF := hF.1 c9
    refine z_iconst (v := (-1 : Int32)) X dX11_log_14 (by decide) ?_
    cases hF
    exact z_iret X hA hQ hr rfl dX11_log_15 (Nat.le_refl _) (Nat.le_refl _)
set_option maxHeartbeats 8000000 in
set_option maxRecDepth 100000 in
theorem c_X11_spentIn (l : Launch) (D : va_G) (cA : Nat → ClassId) (g : Nat → Nat) (sz : Nat)  (v0 : Int32) (v1 : Int32) (rv : Int32) (hF : f_X11_spentIn v0 v1 = some rv) : Met l yX11_spentIn wsX11_spentIn ({ frames := 0, cells := 0, slots := 0, locals := 0 }) (va_Pc [.int v0, .int v1] (PreW D cA g sz ([] : va_W))) (va_Qi (fun (r : Int32) (_ : Unit) => r = rv) (PostW D cA sz ([] : va_W) ([] : va_W)) (va_A ([] : va_W) sz)) 0 0 (va_A ([] : va_W) sz) := by
  refine z_start (cc := cX11_spentIn) (maxL := 2) (ret := (some .int)) (lv0 := [(0, .int v0), (1, .int v1)]) (Qc := fun sz => va_Qi (fun (r : Int32) (_ : Unit) => r = rv) (PostW D cA sz ([] : va_W) ([] : va_W)) (va_A ([] : va_W) sz)) (free := fun sz => va_A ([] : va_W) sz) (by decide +kernel) rfl rfl (Nat.le_of_ble_eq_true rfl) ?_
  intro p e R s m args below meth c A Q hR hA hQ X hr hin
  unfold f_X11_spentIn at hF
  refine z_iload_n X dX11_spentIn_0 rfl 1 rfl ?_
  have hF := if_e hF
  by_cases c1 : v1 = (0 : Int32)
  · have hF := hF.1 c1
    refine z_lookup (tgt := 28) (off := 27) X dX11_spentIn_1 (by decide) (by rw [c1]; rfl) (by decide) ?_
    refine z_iconst (v := (1 : Int32)) X dX11_spentIn_28 (by decide) ?_
    cases hF
    exact z_iret X hA hQ hr rfl dX11_spentIn_29 (Nat.le_refl _) (Nat.le_refl _)
  have hF := hF.2 c1
  have tc1 : Int32.toInt v1 ≠ 0 := ne_t c1
  have hF := if_e hF
  by_cases c3 : v1 = (1 : Int32)
  · have hF := hF.1 c3
    refine z_lookup (tgt := 30) (off := 29) X dX11_spentIn_1 (by decide) (by rw [c3]; rfl) (by decide) ?_
    refine z_iload_n X dX11_spentIn_30 rfl 0 rfl ?_
    have hF := if_e hF
    refine z_if_ne (tgt := 38) X dX11_spentIn_31 (by decide) (fun c2 => ?_) (fun c2 => ?_)
    · have hF := hF.2 c2
      refine z_iconst (v := (0 : Int32)) X dX11_spentIn_38 (by decide) ?_
      cases hF
      exact z_iret X hA hQ hr rfl dX11_spentIn_39 (Nat.le_refl _) (Nat.le_refl _)
    · have hF := hF.1 c2
      refine z_iconst (v := (1 : Int32)) X dX11_spentIn_34 (by decide) ?_
      refine z_goto (tgt := 39) X dX11_spentIn_35 (by decide) ?_
      cases hF
      exact z_iret X hA hQ hr rfl dX11_spentIn_39 (Nat.le_refl _) (Nat.le_refl _)
  have hF := hF.2 c3
  have tc3 : Int32.toInt v1 ≠ 1 := ne_t c3
  refine z_lookup (tgt := 40) (off := 39) X dX11_spentIn_1 (by decide) (by simp only [Op.lookupswitch.offset]; (repeat rw [if_neg (by omega)])) (by decide) ?_
  refine z_iload_n X dX11_spentIn_40 rfl 0 rfl ?_
  cases hF
  exact z_iret X hA hQ hr rfl dX11_spentIn_41 (Nat.le_refl _) (Nat.le_refl _)
abbrev w_X11_spent (cA : Nat → ClassId) (h_t : Nat) (a_t : Nat → Nat) (o_t : Ob) (a_t_state : Nat → Nat) (o_t_state : Ob) (a_t_state_wares : Nat → Nat) (o_t_state_wares : Ob) (a_t_state_log : Nat → Nat) (o_t_state_log : Ob) : va_W := [(h_t, .inr (11, [.ref (a_t 0), .ref (a_t 1), .ref (a_t 2), .ref (a_t 3), .ref (a_t 4), .ref (a_t 5), .ref (a_t 6), .ref (a_t 7), .ref (a_t 8), .ref (a_t 9), .ref (a_t 10), .ref (a_t 11), .ref (a_t 12), .int (o_t 13 0), .int (o_t 14 0)])), (a_t 12, .inl (cA 0, 20, .inl (o_t 12))), ((a_t 2), .inr (9, [.ref (a_t_state 0), .ref (a_t_state 1), .ref (a_t_state 2), .ref (a_t_state 3), .int (o_t_state 4 0), .int (o_t_state 5 0), .int (o_t_state 6 0)])), (a_t_state 3, .inl (cA 4, 3, .inr (.inr (.inr (.inr (bk (a_t_state 20) (a_t_state 21) (a_t_state 22))))))), ((a_t_state 0), .inr (10, [.int (o_t_state_wares 0 0), .ref (a_t_state_wares 1), .ref (a_t_state_wares 2), .ref (a_t_state_wares 3), .ref (a_t_state_wares 4)])), (a_t_state_wares 1, .inl (cA 0, 8, .inl (o_t_state_wares 1))), (a_t_state_wares 2, .inl (cA 0, 8, .inl (o_t_state_wares 2))), (a_t_state_wares 3, .inl (cA 0, 8, .inl (o_t_state_wares 3))), (a_t_state_wares 4, .inl (cA 0, 8, .inl (o_t_state_wares 4))), ((a_t_state 2), .inr (4, [.int (o_t_state_log 0 0), .ref (a_t_state_log 1), .ref (a_t_state_log 2), .ref (a_t_state_log 3), .ref (a_t_state_log 4)])), (a_t_state_log 1, .inl (cA 0, 40, .inl (o_t_state_log 1))), (a_t_state_log 2, .inl (cA 0, 40, .inl (o_t_state_log 2))), (a_t_state_log 3, .inl (cA 0, 40, .inl (o_t_state_log 3))), (a_t_state_log 4, .inl (cA 0, 320, .inl (o_t_state_log 4)))]
set_option maxRecDepth 20000 in
theorem h_X11_spent_X11 : ∀ w ∈ wsX110, w ∈ wsX11_spent := by decide +kernel
set_option maxRecDepth 20000 in
theorem k_X11_spent_26 : ZF wsX11_spent RX11 26 11 2 RX11 TX11 15 := ⟨rfl, by decide, h_X11_spent_X11, by decide +kernel⟩
set_option maxRecDepth 20000 in
theorem h_X11_spent_X9 : ∀ w ∈ wsX90, w ∈ wsX11_spent := by decide +kernel
set_option maxRecDepth 20000 in
theorem k_X11_spent_127 : ZF wsX11_spent RX11 127 9 0 RX9 TX9 7 := ⟨rfl, by decide, h_X11_spent_X9, by decide +kernel⟩
set_option maxRecDepth 20000 in
theorem k_X11_spent_143 : ZF wsX11_spent RX11 143 9 2 RX9 TX9 7 := ⟨rfl, by decide, h_X11_spent_X9, by decide +kernel⟩
set_option maxRecDepth 20000 in
theorem h_X11_spent_X4 : ∀ w ∈ wsX40, w ∈ wsX11_spent := by decide +kernel
set_option maxRecDepth 20000 in
theorem k_X11_spent_175 : ZF wsX11_spent RX11 175 4 0 RX4 TX4 5 := ⟨rfl, by decide, h_X11_spent_X4, by decide +kernel⟩
set_option maxRecDepth 20000 in
theorem k_X11_spent_229 : ZF wsX11_spent RX11 229 4 1 RX4 TX4 5 := ⟨rfl, by decide, h_X11_spent_X4, by decide +kernel⟩
set_option maxRecDepth 20000 in
theorem k_X11_spent_232 : ZF wsX11_spent RX11 232 4 2 RX4 TX4 5 := ⟨rfl, by decide, h_X11_spent_X4, by decide +kernel⟩
set_option maxHeartbeats 8000000 in
set_option maxRecDepth 100000 in
theorem c_X11_spent (l : Launch) (D : va_G) (cA : Nat → ClassId) (g : Nat → Nat) (sz : Nat) (h_t : Nat) (a_t : Nat → Nat) (o_t : Ob) (a_t_state : Nat → Nat) (o_t_state : Ob) (a_t_state_wares : Nat → Nat) (o_t_state_wares : Ob) (a_t_state_log : Nat → Nat) (o_t_state_log : Ob) (v1 : Int32) (v2 : Int32) (rv : Int32) (hF : f_X11_spent o_t_state_wares o_t_state_log v1 v2 = some rv) : Met l yX11_spent wsX11_spent ({ frames := 1, cells := 0, slots := 0, locals := 21 }) (va_Pc [.ref h_t, .int v1, .int v2] (PreW D cA g sz (w_X11_spent cA h_t a_t o_t a_t_state o_t_state a_t_state_wares o_t_state_wares a_t_state_log o_t_state_log))) (va_Qi (fun (r : Int32) (_ : Unit) => r = rv) (PostW D cA sz (w_X11_spent cA h_t a_t o_t a_t_state o_t_state a_t_state_wares o_t_state_wares a_t_state_log o_t_state_log) (w_X11_spent cA h_t a_t o_t a_t_state o_t_state a_t_state_wares o_t_state_wares a_t_state_log o_t_state_log)) (va_A (w_X11_spent cA h_t a_t o_t a_t_state o_t_state a_t_state_wares o_t_state_wares a_t_state_log o_t_state_log) sz)) 0 0 (va_A (w_X11_spent cA h_t a_t o_t a_t_state o_t_state a_t_state_wares o_t_state_wares a_t_state_log o_t_state_log) sz) := by
  refine z_start (cc := cX11_spent) (maxL := 5) (ret := (some .int)) (lv0 := [(0, .ref h_t), (1, .int v1), (2, .int v2)]) (Qc := fun sz => va_Qi (fun (r : Int32) (_ : Unit) => r = rv) (PostW D cA sz (w_X11_spent cA h_t a_t o_t a_t_state o_t_state a_t_state_wares o_t_state_wares a_t_state_log o_t_state_log) (w_X11_spent cA h_t a_t o_t a_t_state o_t_state a_t_state_wares o_t_state_wares a_t_state_log o_t_state_log)) (va_A (w_X11_spent cA h_t a_t o_t a_t_state o_t_state a_t_state_wares o_t_state_wares a_t_state_log o_t_state_log) sz)) (free := fun sz => va_A (w_X11_spent cA h_t a_t o_t a_t_state o_t_state a_t_state_wares o_t_state_wares a_t_state_log o_t_state_log) sz) (by decide +kernel) rfl rfl (Nat.le_of_ble_eq_true rfl) ?_
  intro p e R s m args below meth c A Q hR hA hQ X hr hin
  unfold f_X11_spent at hF
  refine z_aload_n X dX11_spent_0 rfl 0 rfl ?_
  refine z_get (v := .ref (a_t 2)) X k_X11_spent_26 0 rfl rfl dX11_spent_1 ?_
  refine z_get (v := .ref (a_t_state 0)) X k_X11_spent_127 2 rfl rfl dX11_spent_4 ?_
  refine z_iload_n X dX11_spent_7 rfl 1 rfl ?_
  obtain ⟨r1, hc2, hF⟩ := zb1_e hF
  refine z_Vi (As := [.int v1]) (rest := []) (wc := (w_X10_numberOf cA (a_t_state 0) a_t_state_wares o_t_state_wares)) (wc' := (w_X10_numberOf cA (a_t_state 0) a_t_state_wares o_t_state_wares)) (ws' := (w_X11_spent cA h_t a_t o_t a_t_state o_t_state a_t_state_wares o_t_state_wares a_t_state_log o_t_state_log)) (rv := r1) X (cwV 1 X.2.2.2.2.1 gX11_spent_X10_has rfl rfl rfl (by decide +kernel) (by rw [hR]; exact ⟨Nat.le_of_ble_eq_true rfl, Nat.le_of_ble_eq_true rfl⟩)) (fun sz => c_X10_has l D cA g sz (a_t_state 0) a_t_state_wares o_t_state_wares v1 r1 hc2) [4, 5, 6, 7, 8] [0, 1, 2, 3, 1000, 1001, 1002, 1003, 1004, 9, 10, 11, 12, 13] rfl (by decide) rfl (by decide) rfl rfl rfl rfl rfl rfl (Nat.le_of_ble_eq_true rfl) dX11_spent_8 ⟨Nat.zero_le _, Nat.zero_le _⟩ ?_
  have hF := if_e hF
  refine z_if_eq (tgt := 23) X dX11_spent_11 (by decide) (fun c49 => ?_) (fun c49 => ?_)
  · have hF := hF.1 c49
    refine z_iconst (v := (-1 : Int32)) X dX11_spent_23 (by decide) ?_
    cases hF
    exact z_iret X hA hQ hr rfl dX11_spent_24 (Nat.le_refl _) (Nat.le_refl _)
  · have hF := hF.2 c49
    refine z_iload_n X dX11_spent_14 rfl 2 rfl ?_
    have hF := if_e hF
    refine z_if_lt (tgt := 23) X dX11_spent_15 (by decide) (fun c48 => ?_) (fun c48 => ?_)
    · have hF := hF.1 c48
      refine z_iconst (v := (-1 : Int32)) X dX11_spent_23 (by decide) ?_
      cases hF
      exact z_iret X hA hQ hr rfl dX11_spent_24 (Nat.le_refl _) (Nat.le_refl _)
    · have hF := hF.2 c48
      refine z_iload_n X dX11_spent_18 rfl 2 rfl ?_
      refine z_iconst (v := (2 : Int32)) X dX11_spent_19 (by decide) ?_
      have hF := if_e hF
      refine z_icmp_le (tgt := 25) X dX11_spent_20 (by decide) (fun c47 => ?_) (fun c47 => ?_)
      · have hF := hF.1 c47
        refine z_iconst (v := (0 : Int32)) X dX11_spent_25 (by decide) ?_
        refine z_istore_n (lv' := [(3, .int (0 : Int32)), (0, .ref h_t), (1, .int v1), (2, .int v2)]) X dX11_spent_26 rfl (by decide) rfl ?_
        refine z_iconst (v := (0 : Int32)) X dX11_spent_27 (by decide) ?_
        refine z_istore (lv' := [(4, .int (0 : Int32)), (3, .int (0 : Int32)), (0, .ref h_t), (1, .int v1), (2, .int v2)]) X dX11_spent_28 (by decide) rfl ?_
        obtain ⟨k34, hL, hF⟩ := zb1_e hF
        have L35_x : ∀ (k34' : Int32), k34' = k34 → ZW p l e R s m args below meth c D A 5 0 0 Q (w_X11_spent cA h_t a_t o_t a_t_state o_t_state a_t_state_wares o_t_state_wares a_t_state_log o_t_state_log) [(3, .int k34')] 88 [] := by
          intro k34' hz
          cases hz
          refine z_iload_n X dX11_spent_88 rfl 0 rfl ?_
          cases hF
          exact z_iret X hA hQ hr rfl dX11_spent_89 (Nat.le_refl _) (Nat.le_refl _)
        obtain ⟨B46, hBB46, hL⟩ := zl2_b hL
        have L35 : ∀ (n : Nat) (k32 : Int32) (k33 : Int32), zl2 B46 n k32 k33 = some k34 → ZW p l e R s m args below meth c D A 5 0 0 Q (w_X11_spent cA h_t a_t o_t a_t_state o_t_state a_t_state_wares o_t_state_wares a_t_state_log o_t_state_log) [(0, .ref h_t), (1, .int v1), (2, .int v2), (3, .int k32), (4, .int k33)] 30 [] := by
          intro n
          induction n with
          | zero => intro k32 k33 hL; cases hL
          | succ n ih =>
            intro k32 k33 hL
            obtain ⟨zz36, hF, hL⟩ := zl2_e hL
            rw [hBB46] at hF
            refine z_iload X dX11_spent_30 4 rfl ?_
            refine z_aload_n X dX11_spent_32 rfl 0 rfl ?_
            refine z_get (v := .ref (a_t 2)) X k_X11_spent_26 0 rfl rfl dX11_spent_33 ?_
            refine z_get (v := .ref (a_t_state 2)) X k_X11_spent_143 2 rfl rfl dX11_spent_36 ?_
            refine z_get (v := .int (o_t_state_log 0 0)) X k_X11_spent_175 9 rfl rfl dX11_spent_39 ?_
            have hF := if_e hF
            refine z_icmp_ge (tgt := 88) X dX11_spent_42 (by decide) (fun c45 => ?_) (fun c45 => ?_)
            · have hF := hF.1 c45
              cases hF
              have hL := Option.some.inj hL
              refine z_lv (lv' := [(3, .int k32)]) [3] rfl ?_
              exact L35_x k32 hL
            · have hF := hF.2 c45
              refine z_aload_n X dX11_spent_45 rfl 0 rfl ?_
              refine z_get (v := .ref (a_t 2)) X k_X11_spent_26 0 rfl rfl dX11_spent_46 ?_
              refine z_get (v := .ref (a_t_state 2)) X k_X11_spent_143 2 rfl rfl dX11_spent_49 ?_
              refine z_get (v := .ref (a_t_state_log 1)) X k_X11_spent_229 9 rfl rfl dX11_spent_52 ?_
              refine z_iload X dX11_spent_55 4 rfl ?_
              obtain ⟨g37, hF⟩ := gi_e hF
              refine z_iald X 10 rfl g37 dX11_spent_57 ?_
              refine z_iload_n X dX11_spent_58 rfl 1 rfl ?_
              have hF := if_e hF
              refine z_icmp_ne (tgt := 82) X dX11_spent_59 (by decide) (fun c44 => ?_) (fun c44 => ?_)
              · have hF := hF.2 c44
                obtain ⟨x38, ex38, hF⟩ := nx_e hF
                refine z_iinc (v := x38) (lv' := [(4, .int x38), (0, .ref h_t), (1, .int v1), (2, .int v2), (3, .int k32)]) (j := 4) X dX11_spent_82 rfl (by rw [ex38]; rfl) (by decide) rfl ?_
                refine z_goto (tgt := 30) X dX11_spent_85 (by decide) ?_
                cases hF
                refine z_lv (lv' := [(0, .ref h_t), (1, .int v1), (2, .int v2), (3, .int k32), (4, .int x38)]) [1, 2, 3, 4, 0] rfl ?_
                exact ih k32 x38 hL
              · have hF := hF.1 c44
                refine z_iload_n X dX11_spent_62 rfl 3 rfl ?_
                refine z_aload_n X dX11_spent_63 rfl 0 rfl ?_
                refine z_get (v := .ref (a_t 2)) X k_X11_spent_26 0 rfl rfl dX11_spent_64 ?_
                refine z_get (v := .ref (a_t_state 2)) X k_X11_spent_143 2 rfl rfl dX11_spent_67 ?_
                refine z_get (v := .ref (a_t_state_log 2)) X k_X11_spent_232 9 rfl rfl dX11_spent_70 ?_
                refine z_iload X dX11_spent_73 4 rfl ?_
                obtain ⟨g39, hF⟩ := gi_e hF
                refine z_iald X 11 rfl g39 dX11_spent_75 ?_
                refine z_iload_n X dX11_spent_76 rfl 2 rfl ?_
                obtain ⟨r40, hc41, hF⟩ := zb1_e hF
                refine z_Si (As := [.int (o_t_state_log 2 (Int32.toNatClampNeg k33)), .int v2]) (rest := [.int k32]) (wc := ([] : va_W)) (wc' := ([] : va_W)) (ws' := (w_X11_spent cA h_t a_t o_t a_t_state o_t_state a_t_state_wares o_t_state_wares a_t_state_log o_t_state_log)) (rv := r40) X (va_cwS 2 X.2.2.2.2.1 gX11_spent_X11_spentIn rfl rfl rfl (by decide +kernel) (by rw [hR]; exact ⟨Nat.le_of_ble_eq_true rfl, Nat.le_of_ble_eq_true rfl⟩)) (fun sz => c_X11_spentIn l D cA g sz (o_t_state_log 2 (Int32.toNatClampNeg k33)) v2 r40 hc41) [] [0, 1, 2, 3, 4, 5, 6, 7, 8, 9, 10, 11, 12, 13] rfl (by decide) rfl (by decide) rfl rfl rfl (Nat.le_of_ble_eq_true rfl) dX11_spent_77 ⟨Nat.zero_le _, Nat.zero_le _⟩ ?_
                refine z_iadd X dX11_spent_80 ?_
                obtain ⟨x42, ex42, hF⟩ := nx_e hF
                refine z_nm ex42 ?_
                refine z_istore_n (lv' := [(3, .int x42), (0, .ref h_t), (1, .int v1), (2, .int v2), (4, .int k33)]) X dX11_spent_81 rfl (by decide) rfl ?_
                obtain ⟨x43, ex43, hF⟩ := nx_e hF
                refine z_iinc (v := x43) (lv' := [(4, .int x43), (3, .int x42), (0, .ref h_t), (1, .int v1), (2, .int v2)]) (j := 4) X dX11_spent_82 rfl (by rw [ex43]; rfl) (by decide) rfl ?_
                refine z_goto (tgt := 30) X dX11_spent_85 (by decide) ?_
                cases hF
                refine z_lv (lv' := [(0, .ref h_t), (1, .int v1), (2, .int v2), (3, .int x42), (4, .int x43)]) [2, 3, 4, 1, 0] rfl ?_
                exact ih x42 x43 hL
        refine z_lv (lv' := [(0, .ref h_t), (1, .int v1), (2, .int v2), (3, .int (0 : Int32)), (4, .int (0 : Int32))]) [2, 3, 4, 1, 0] rfl ?_
        exact L35 FU (0 : Int32) (0 : Int32) hL
      · have hF := hF.2 c47
        refine z_iconst (v := (-1 : Int32)) X dX11_spent_23 (by decide) ?_
        cases hF
        exact z_iret X hA hQ hr rfl dX11_spent_24 (Nat.le_refl _) (Nat.le_refl _)
set_option maxRecDepth 20000 in
theorem h_X11_hindrance_X11 : ∀ w ∈ wsX110, w ∈ wsX11_hindrance := by decide +kernel
set_option maxRecDepth 20000 in
theorem k_X11_hindrance_26 : ZF wsX11_hindrance RX11 26 11 2 RX11 TX11 15 := ⟨rfl, by decide, h_X11_hindrance_X11, by decide +kernel⟩
set_option maxRecDepth 20000 in
theorem h_X11_hindrance_X9 : ∀ w ∈ wsX90, w ∈ wsX11_hindrance := by decide +kernel
set_option maxRecDepth 20000 in
theorem k_X11_hindrance_127 : ZF wsX11_hindrance RX11 127 9 0 RX9 TX9 7 := ⟨rfl, by decide, h_X11_hindrance_X9, by decide +kernel⟩
set_option maxRecDepth 20000 in
theorem k_X11_hindrance_160 : ZF wsX11_hindrance RX11 160 9 1 RX9 TX9 7 := ⟨rfl, by decide, h_X11_hindrance_X9, by decide +kernel⟩
set_option maxRecDepth 20000 in
theorem h_X11_hindrance_X10 : ∀ w ∈ wsX100, w ∈ wsX11_hindrance := by decide +kernel
set_option maxRecDepth 20000 in
theorem k_X11_hindrance_185 : ZF wsX11_hindrance RX11 185 10 1 RX10 TX10 5 := ⟨rfl, by decide, h_X11_hindrance_X10, by decide +kernel⟩
set_option maxHeartbeats 8000000 in
set_option maxRecDepth 100000 in
theorem c_X11_hindrance (l : Launch) (D : va_G) (cA : Nat → ClassId) (g : Nat → Nat) (sz : Nat) (h_t : Nat) (a_t : Nat → Nat) (o_t : Ob) (a_t_state : Nat → Nat) (o_t_state : Ob) (a_t_state_wares : Nat → Nat) (o_t_state_wares : Ob) (a_t_state_shelf : Nat → Nat) (o_t_state_shelf : Ob) (v1 : Int32) (v2 : Int32) (rv : Int32) (hF : f_X11_hindrance o_t_state_wares o_t_state_shelf v1 v2 = some rv) : Met l yX11_hindrance wsX11_hindrance ({ frames := 1, cells := 0, slots := 0, locals := 21 }) (va_Pc [.ref h_t, .int v1, .int v2] (PreW D cA g sz (w_X11_item cA h_t a_t o_t a_t_state o_t_state a_t_state_wares o_t_state_wares a_t_state_shelf o_t_state_shelf))) (va_Qi (fun (r : Int32) (_ : Unit) => r = rv) (PostW D cA sz (w_X11_item cA h_t a_t o_t a_t_state o_t_state a_t_state_wares o_t_state_wares a_t_state_shelf o_t_state_shelf) (w_X11_item cA h_t a_t o_t a_t_state o_t_state a_t_state_wares o_t_state_wares a_t_state_shelf o_t_state_shelf)) (va_A (w_X11_item cA h_t a_t o_t a_t_state o_t_state a_t_state_wares o_t_state_wares a_t_state_shelf o_t_state_shelf) sz)) 0 0 (va_A (w_X11_item cA h_t a_t o_t a_t_state o_t_state a_t_state_wares o_t_state_wares a_t_state_shelf o_t_state_shelf) sz) := by
  refine z_start (cc := cX11_hindrance) (maxL := 3) (ret := (some .int)) (lv0 := [(0, .ref h_t), (1, .int v1), (2, .int v2)]) (Qc := fun sz => va_Qi (fun (r : Int32) (_ : Unit) => r = rv) (PostW D cA sz (w_X11_item cA h_t a_t o_t a_t_state o_t_state a_t_state_wares o_t_state_wares a_t_state_shelf o_t_state_shelf) (w_X11_item cA h_t a_t o_t a_t_state o_t_state a_t_state_wares o_t_state_wares a_t_state_shelf o_t_state_shelf)) (va_A (w_X11_item cA h_t a_t o_t a_t_state o_t_state a_t_state_wares o_t_state_wares a_t_state_shelf o_t_state_shelf) sz)) (free := fun sz => va_A (w_X11_item cA h_t a_t o_t a_t_state o_t_state a_t_state_wares o_t_state_wares a_t_state_shelf o_t_state_shelf) sz) (by decide +kernel) rfl rfl (Nat.le_of_ble_eq_true rfl) ?_
  intro p e R s m args below meth c A Q hR hA hQ X hr hin
  unfold f_X11_hindrance at hF
  refine z_aload_n X dX11_hindrance_0 rfl 0 rfl ?_
  refine z_get (v := .ref (a_t 2)) X k_X11_hindrance_26 0 rfl rfl dX11_hindrance_1 ?_
  refine z_get (v := .ref (a_t_state 1)) X k_X11_hindrance_160 2 rfl rfl dX11_hindrance_4 ?_
  refine z_iload_n X dX11_hindrance_7 rfl 1 rfl ?_
  obtain ⟨r1, hc2, hF⟩ := zb1_e hF
  refine z_Vi (As := [.int v1]) (rest := []) (wc := (w_X8_begin cA (a_t_state 1) a_t_state_shelf o_t_state_shelf)) (wc' := (w_X8_begin cA (a_t_state 1) a_t_state_shelf o_t_state_shelf)) (ws' := (w_X11_item cA h_t a_t o_t a_t_state o_t_state a_t_state_wares o_t_state_wares a_t_state_shelf o_t_state_shelf)) (rv := r1) X (cwV 1 X.2.2.2.2.1 gX11_hindrance_X8_holds rfl rfl rfl (by decide +kernel) (by rw [hR]; exact ⟨Nat.le_of_ble_eq_true rfl, Nat.le_of_ble_eq_true rfl⟩)) (fun sz => c_X8_holds l D cA g sz (a_t_state 1) a_t_state_shelf o_t_state_shelf v1 r1 hc2) [9, 10, 11, 12] [0, 1, 2, 3, 4, 5, 6, 7, 8, 1000, 1001, 1002, 1003] rfl (by decide) rfl (by decide) rfl rfl rfl rfl rfl rfl (Nat.le_of_ble_eq_true rfl) dX11_hindrance_8 ⟨Nat.zero_le _, Nat.zero_le _⟩ ?_
  refine z_iload_n X dX11_hindrance_11 rfl 2 rfl ?_
  refine z_iconst (v := (1 : Int32)) X dX11_hindrance_12 (by decide) ?_
  obtain ⟨K5, eK5, hF⟩ := nx_e hF
  have K5_l : ∀ (j4 : Int32), K5 j4 = some rv → ZW p l e R s m args below meth c D A 3 0 0 Q (w_X11_item cA h_t a_t o_t a_t_state o_t_state a_t_state_wares o_t_state_wares a_t_state_shelf o_t_state_shelf) [(0, .ref h_t), (1, .int v1), (2, .int v2)] 21 [.int j4, .int r1] := by
    intro j4 hF
    rw [eK5] at hF
    have hF := if_e hF
    refine z_icmp_ne (tgt := 26) X dX11_hindrance_21 (by decide) (fun c11 => ?_) (fun c11 => ?_)
    · have hF := hF.2 c11
      refine z_iload_n X dX11_hindrance_26 rfl 2 rfl ?_
      refine z_iconst (v := (1 : Int32)) X dX11_hindrance_27 (by decide) ?_
      have hF := if_e hF
      refine z_icmp_ne (tgt := 60) X dX11_hindrance_28 (by decide) (fun c10 => ?_) (fun c10 => ?_)
      · have hF := hF.2 c10
        refine z_iconst (v := (0 : Int32)) X dX11_hindrance_60 (by decide) ?_
        cases hF
        exact z_iret X hA hQ hr rfl dX11_hindrance_61 (Nat.le_refl _) (Nat.le_refl _)
      · have hF := hF.1 c10
        refine z_aload_n X dX11_hindrance_31 rfl 0 rfl ?_
        refine z_get (v := .ref (a_t 2)) X k_X11_hindrance_26 0 rfl rfl dX11_hindrance_32 ?_
        refine z_get (v := .ref (a_t_state 0)) X k_X11_hindrance_127 2 rfl rfl dX11_hindrance_35 ?_
        refine z_get (v := .ref (a_t_state_wares 1)) X k_X11_hindrance_185 4 rfl rfl dX11_hindrance_38 ?_
        refine z_iload_n X dX11_hindrance_41 rfl 1 rfl ?_
        obtain ⟨g6, hF⟩ := gi_e hF
        refine z_iald X 5 rfl g6 dX11_hindrance_42 ?_
        refine z_aload_n X dX11_hindrance_43 rfl 0 rfl ?_
        refine z_get (v := .ref (a_t 2)) X k_X11_hindrance_26 0 rfl rfl dX11_hindrance_44 ?_
        refine z_get (v := .ref (a_t_state 1)) X k_X11_hindrance_160 2 rfl rfl dX11_hindrance_47 ?_
        obtain ⟨r7, hc8, hF⟩ := zb1_e hF
        refine z_Vi (As := []) (rest := [.int (o_t_state_wares 1 (Int32.toNatClampNeg v1))]) (wc := (w_X8_begin cA (a_t_state 1) a_t_state_shelf o_t_state_shelf)) (wc' := (w_X8_begin cA (a_t_state 1) a_t_state_shelf o_t_state_shelf)) (ws' := (w_X11_item cA h_t a_t o_t a_t_state o_t_state a_t_state_wares o_t_state_wares a_t_state_shelf o_t_state_shelf)) (rv := r7) X (cwV 0 X.2.2.2.2.1 gX11_hindrance_X8_free rfl rfl rfl (by decide +kernel) (by rw [hR]; exact ⟨Nat.le_of_ble_eq_true rfl, Nat.le_of_ble_eq_true rfl⟩)) (fun sz => c_X8_free l D cA g sz (a_t_state 1) a_t_state_shelf o_t_state_shelf r7 hc8) [9, 10, 11, 12] [0, 1, 2, 3, 4, 5, 6, 7, 8, 1000, 1001, 1002, 1003] rfl (by decide) rfl (by decide) rfl rfl rfl rfl rfl rfl (Nat.le_of_ble_eq_true rfl) dX11_hindrance_50 ⟨Nat.zero_le _, Nat.zero_le _⟩ ?_
        have hF := if_e hF
        refine z_icmp_le (tgt := 60) X dX11_hindrance_53 (by decide) (fun c9 => ?_) (fun c9 => ?_)
        · have hF := hF.1 c9
          refine z_iconst (v := (0 : Int32)) X dX11_hindrance_60 (by decide) ?_
          cases hF
          exact z_iret X hA hQ hr rfl dX11_hindrance_61 (Nat.le_refl _) (Nat.le_refl _)
        · have hF := hF.2 c9
          refine z_iconst (v := (2 : Int32)) X dX11_hindrance_56 (by decide) ?_
          refine z_goto (tgt := 61) X dX11_hindrance_57 (by decide) ?_
          cases hF
          exact z_iret X hA hQ hr rfl dX11_hindrance_61 (Nat.le_refl _) (Nat.le_refl _)
    · have hF := hF.1 c11
      refine z_iconst (v := (1 : Int32)) X dX11_hindrance_24 (by decide) ?_
      cases hF
      exact z_iret X hA hQ hr rfl dX11_hindrance_25 (Nat.le_refl _) (Nat.le_refl _)
  have hF := if_e hF
  refine z_icmp_ne (tgt := 20) X dX11_hindrance_13 (by decide) (fun c12 => ?_) (fun c12 => ?_)
  · have hF := hF.2 c12
    refine z_iconst (v := (0 : Int32)) X dX11_hindrance_20 (by decide) ?_
    refine z_lv (lv' := [(0, .ref h_t), (1, .int v1), (2, .int v2)]) [0, 1, 2] rfl ?_
    exact K5_l (0 : Int32) hF
  · have hF := hF.1 c12
    refine z_iconst (v := (1 : Int32)) X dX11_hindrance_16 (by decide) ?_
    refine z_goto (tgt := 21) X dX11_hindrance_17 (by decide) ?_
    refine z_lv (lv' := [(0, .ref h_t), (1, .int v1), (2, .int v2)]) [0, 1, 2] rfl ?_
    exact K5_l (1 : Int32) hF
abbrev w_X11_gate (cA : Nat → ClassId) (h_t : Nat) (a_t : Nat → Nat) (o_t : Ob) (a_t_gates : Nat → Nat) (o_t_gates : Ob) : va_W := [(h_t, .inr (11, [.ref (a_t 0), .ref (a_t 1), .ref (a_t 2), .ref (a_t 3), .ref (a_t 4), .ref (a_t 5), .ref (a_t 6), .ref (a_t 7), .ref (a_t 8), .ref (a_t 9), .ref (a_t 10), .ref (a_t 11), .ref (a_t 12), .int (o_t 13 0), .int (o_t 14 0)])), (a_t 12, .inl (cA 0, 20, .inl (o_t 12))), ((a_t 5), .inr (2, [.ref (a_t_gates 0), .int (o_t_gates 1 0), .int (o_t_gates 2 0)])), (a_t_gates 0, .inl (cA 0, 60, .inl (o_t_gates 0)))]
set_option maxRecDepth 20000 in
theorem h_X11_gate_X11 : ∀ w ∈ wsX110, w ∈ wsX11_gate := by decide +kernel
set_option maxRecDepth 20000 in
theorem k_X11_gate_44 : ZF wsX11_gate RX11 44 11 5 RX11 TX11 15 := ⟨rfl, by decide, h_X11_gate_X11, by decide +kernel⟩
set_option maxRecDepth 20000 in
theorem h_X11_gate_X2 : ∀ w ∈ wsX20, w ∈ wsX11_gate := by decide +kernel
set_option maxRecDepth 20000 in
theorem k_X11_gate_261 : ZF wsX11_gate RX11 261 2 1 RX2 TX2 3 := ⟨rfl, by decide, h_X11_gate_X2, by decide +kernel⟩
set_option maxRecDepth 20000 in
theorem k_X11_gate_262 : ZF wsX11_gate RX11 262 2 0 RX2 TX2 3 := ⟨rfl, by decide, h_X11_gate_X2, by decide +kernel⟩
set_option maxHeartbeats 8000000 in
set_option maxRecDepth 100000 in
theorem c_X11_gate (l : Launch) (D : va_G) (cA : Nat → ClassId) (g : Nat → Nat) (sz : Nat) (h_t : Nat) (a_t : Nat → Nat) (o_t : Ob) (a_t_gates : Nat → Nat) (o_t_gates : Ob) (v1 : Int32) (rv : Int32) (hF : f_X11_gate o_t_gates v1 = some rv) : Met l yX11_gate wsX11_gate ({ frames := 0, cells := 0, slots := 0, locals := 0 }) (va_Pc [.ref h_t, .int v1] (PreW D cA g sz (w_X11_gate cA h_t a_t o_t a_t_gates o_t_gates))) (va_Qi (fun (r : Int32) (_ : Unit) => r = rv) (PostW D cA sz (w_X11_gate cA h_t a_t o_t a_t_gates o_t_gates) (w_X11_gate cA h_t a_t o_t a_t_gates o_t_gates)) (va_A (w_X11_gate cA h_t a_t o_t a_t_gates o_t_gates) sz)) 0 0 (va_A (w_X11_gate cA h_t a_t o_t a_t_gates o_t_gates) sz) := by
  refine z_start (cc := cX11_gate) (maxL := 2) (ret := (some .int)) (lv0 := [(0, .ref h_t), (1, .int v1)]) (Qc := fun sz => va_Qi (fun (r : Int32) (_ : Unit) => r = rv) (PostW D cA sz (w_X11_gate cA h_t a_t o_t a_t_gates o_t_gates) (w_X11_gate cA h_t a_t o_t a_t_gates o_t_gates)) (va_A (w_X11_gate cA h_t a_t o_t a_t_gates o_t_gates) sz)) (free := fun sz => va_A (w_X11_gate cA h_t a_t o_t a_t_gates o_t_gates) sz) (by decide +kernel) rfl rfl (Nat.le_of_ble_eq_true rfl) ?_
  intro p e R s m args below meth c A Q hR hA hQ X hr hin
  unfold f_X11_gate at hF
  refine z_iload_n X dX11_gate_0 rfl 1 rfl ?_
  have hF := if_e hF
  refine z_if_lt (tgt := 27) X dX11_gate_1 (by decide) (fun c3 => ?_) (fun c3 => ?_)
  · have hF := hF.1 c3
    refine z_iconst (v := (-1 : Int32)) X dX11_gate_27 (by decide) ?_
    cases hF
    exact z_iret X hA hQ hr rfl dX11_gate_28 (Nat.le_refl _) (Nat.le_refl _)
  · have hF := hF.2 c3
    refine z_iload_n X dX11_gate_4 rfl 1 rfl ?_
    refine z_aload_n X dX11_gate_5 rfl 0 rfl ?_
    refine z_get (v := .ref (a_t 5)) X k_X11_gate_44 0 rfl rfl dX11_gate_6 ?_
    refine z_get (v := .int (o_t_gates 1 0)) X k_X11_gate_261 2 rfl rfl dX11_gate_9 ?_
    have hF := if_e hF
    refine z_icmp_ge (tgt := 27) X dX11_gate_12 (by decide) (fun c2 => ?_) (fun c2 => ?_)
    · have hF := hF.1 c2
      refine z_iconst (v := (-1 : Int32)) X dX11_gate_27 (by decide) ?_
      cases hF
      exact z_iret X hA hQ hr rfl dX11_gate_28 (Nat.le_refl _) (Nat.le_refl _)
    · have hF := hF.2 c2
      refine z_aload_n X dX11_gate_15 rfl 0 rfl ?_
      refine z_get (v := .ref (a_t 5)) X k_X11_gate_44 0 rfl rfl dX11_gate_16 ?_
      refine z_get (v := .ref (a_t_gates 0)) X k_X11_gate_262 2 rfl rfl dX11_gate_19 ?_
      refine z_iload_n X dX11_gate_22 rfl 1 rfl ?_
      obtain ⟨g1, hF⟩ := gi_e hF
      refine z_iald X 3 rfl g1 dX11_gate_23 ?_
      refine z_goto (tgt := 28) X dX11_gate_24 (by decide) ?_
      cases hF
      exact z_iret X hA hQ hr rfl dX11_gate_28 (Nat.le_refl _) (Nat.le_refl _)
