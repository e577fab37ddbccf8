theorem zp_e0 {α β : Type} {x : Option α} {a : Option β} {f : α → Option β} {b : Option β} (h : x = none) (hz : zp x a f = b) : a = b := by subst h; exact hz
theorem zp_e1 {α β : Type} {x : Option α} {a : Option β} {f : α → Option β} {b : Option β} {v : α} (h : x = some v) (hz : zp x a f = b) : f v = b := by subst h; exact hz
theorem pm_new {w pl0 S S' : va_W} {k : Nat × va_E} (h : S' = S) : ((w ++ (k :: pl0)) ++ S').Perm (w ++ (k :: (S ++ pl0))) := by
  subst h
  rw [List.append_assoc]
  refine List.Perm.append_left _ ?_
  show (k :: (pl0 ++ S')).Perm (k :: (S' ++ pl0))
  exact (List.perm_append_comm).cons _
theorem z_widen {p : Program} {l : Launch} {e : Env} {R : Room} {s : State} {m : MethodId} {args : Array Value} {below : List Frame} {meth : Method} {c : Code} {nL cells slots c2 s2 : Nat} {D : va_G} {A : Nat → Prop} {Q : State → Prop} {ws : va_W} {lv : List (Nat × Value)} {pc : Nat} {st : List Value} (h1 : cells ≤ c2) (h2 : slots ≤ s2) (k : ZW p l e R s m args below meth c D A nL c2 s2 Q ws lv pc st) : ZW p l e R s m args below meth c D A nL cells slots Q ws lv pc st := fun H locs ls hP hD hS hl => W.widen h1 h2 (k H locs ls hP hD hS hl)
abbrev w_X3_keep (cA : Nat → ClassId) (h_t : Nat) (a_t : Nat → Nat) (o_t : Ob) (h_p1 : Nat) (a_p1 : Nat → Nat) (o_p1 : Ob) (a_p1_wares : Nat → Nat) (o_p1_wares : Ob) (a_p1_shelf : Nat → Nat) (o_p1_shelf : Ob) (a_p1_log : Nat → Nat) (o_p1_log : Ob) (a_p1_b0 : Nat → Nat) (o_p1_b0 : Ob) (a_p1_b1 : Nat → Nat) (o_p1_b1 : Ob) (a_p1_b2 : Nat → Nat) (o_p1_b2 : Ob) : va_W := [(h_t, .inr (3, [.ref (a_t 0), .int (o_t 1 0), .int (o_t 2 0)])), (h_p1, .inr (9, [.ref (a_p1 0), .ref (a_p1 1), .ref (a_p1 2), .ref (a_p1 3), .int (o_p1 4 0), .int (o_p1 5 0), .int (o_p1 6 0)])), (a_p1 3, .inl (cA 4, 3, .inr (.inr (.inr (.inr (bk (a_p1 20) (a_p1 21) (a_p1 22))))))), ((a_p1 0), .inr (10, [.int (o_p1_wares 0 0), .ref (a_p1_wares 1), .ref (a_p1_wares 2), .ref (a_p1_wares 3), .ref (a_p1_wares 4)])), (a_p1_wares 1, .inl (cA 0, 8, .inl (o_p1_wares 1))), (a_p1_wares 2, .inl (cA 0, 8, .inl (o_p1_wares 2))), (a_p1_wares 3, .inl (cA 0, 8, .inl (o_p1_wares 3))), (a_p1_wares 4, .inl (cA 0, 8, .inl (o_p1_wares 4))), ((a_p1 1), .inr (8, [.int (o_p1_shelf 0 0), .int (o_p1_shelf 1 0), .int (o_p1_shelf 2 0), .int (o_p1_shelf 3 0), .ref (a_p1_shelf 4), .ref (a_p1_shelf 5), .ref (a_p1_shelf 6)])), (a_p1_shelf 4, .inl (cA 0, 8, .inl (o_p1_shelf 4))), (a_p1_shelf 5, .inl (cA 0, 8, .inl (o_p1_shelf 5))), (a_p1_shelf 6, .inl (cA 1, 8, .inr (.inr (.inl (fun j => (o_p1_shelf 6 j).toUInt32))))), ((a_p1 2), .inr (4, [.int (o_p1_log 0 0), .ref (a_p1_log 1), .ref (a_p1_log 2), .ref (a_p1_log 3), .ref (a_p1_log 4)])), (a_p1_log 1, .inl (cA 0, 40, .inl (o_p1_log 1))), (a_p1_log 2, .inl (cA 0, 40, .inl (o_p1_log 2))), (a_p1_log 3, .inl (cA 0, 40, .inl (o_p1_log 3))), (a_p1_log 4, .inl (cA 0, 320, .inl (o_p1_log 4))), ((a_p1 20), .inr (0, [.int (o_p1_b0 0 0), .int (o_p1_b0 1 0), .int (o_p1_b0 2 0), .int (o_p1_b0 3 0), .int (o_p1_b0 4 0), .int (o_p1_b0 5 0), .int (o_p1_b0 6 0), .ref (a_p1_b0 7), .ref (a_p1_b0 8), .ref (a_p1_b0 9)])), (a_p1_b0 7, .inl (cA 0, 30, .inl (o_p1_b0 7))), (a_p1_b0 8, .inl (cA 0, 30, .inl (o_p1_b0 8))), (a_p1_b0 9, .inl (cA 0, 30, .inl (o_p1_b0 9))), ((a_p1 21), .inr (0, [.int (o_p1_b1 0 0), .int (o_p1_b1 1 0), .int (o_p1_b1 2 0), .int (o_p1_b1 3 0), .int (o_p1_b1 4 0), .int (o_p1_b1 5 0), .int (o_p1_b1 6 0), .ref (a_p1_b1 7), .ref (a_p1_b1 8), .ref (a_p1_b1 9)])), (a_p1_b1 7, .inl (cA 0, 30, .inl (o_p1_b1 7))), (a_p1_b1 8, .inl (cA 0, 30, .inl (o_p1_b1 8))), (a_p1_b1 9, .inl (cA 0, 30, .inl (o_p1_b1 9))), ((a_p1 22), .inr (0, [.int (o_p1_b2 0 0), .int (o_p1_b2 1 0), .int (o_p1_b2 2 0), .int (o_p1_b2 3 0), .int (o_p1_b2 4 0), .int (o_p1_b2 5 0), .int (o_p1_b2 6 0), .ref (a_p1_b2 7), .ref (a_p1_b2 8), .ref (a_p1_b2 9)])), (a_p1_b2 7, .inl (cA 0, 30, .inl (o_p1_b2 7))), (a_p1_b2 8, .inl (cA 0, 30, .inl (o_p1_b2 8))), (a_p1_b2 9, .inl (cA 0, 30, .inl (o_p1_b2 9)))]
def f_X3_keep (o_t : Ob) (o_p1 : Ob) (o_p1_wares : Ob) (o_p1_shelf : Ob) (o_p1_log : Ob) (o_p1_b0 : Ob) (o_p1_b1 : Ob) (o_p1_b2 : Ob) (P : PV) : Option (Ob × PV) :=
  nx (fun (q6 : Ob) => (
  zb1 (f_X3_place q6 (q6 2 0)) fun (r8 : Int32) =>
  gi r8 8 <|
  zb7 (f_X9_copyFrom (((P (Int32.toNatClampNeg r8)).getD V9) 0) (((P (Int32.toNatClampNeg r8)).getD V9) 1) (((P (Int32.toNatClampNeg r8)).getD V9) 2) (((P (Int32.toNatClampNeg r8)).getD V9) 3) (((P (Int32.toNatClampNeg r8)).getD V9) 4) (((P (Int32.toNatClampNeg r8)).getD V9) 5) (((P (Int32.toNatClampNeg r8)).getD V9) 6) o_p1 o_p1_wares o_p1_shelf o_p1_log o_p1_b0 o_p1_b1 o_p1_b2) fun (o10 : Ob) (o11 : Ob) (o12 : Ob) (o13 : Ob) (o14 : Ob) (o15 : Ob) (o16 : Ob) =>
  nx (upP P (Int32.toNatClampNeg r8) (v7 o10 o11 o12 o13 o14 o15 o16)) fun P17 =>
  nx (si q6 2 ((q6 2 0) + (1 : Int32))) fun o22 =>
  some (o22, P17)
  )) fun K7 =>
  if o_t 2 0 = (8 : Int32) then (
  zb1 (f_X3_place o_t (1 : Int32)) fun (r23 : Int32) =>
  nx (si o_t 1 r23) fun o25 =>
  nx (si o25 2 ((o25 2 0) - (1 : Int32))) fun o26 =>
  K7 o26
  ) else (
  K7 o_t
  )
set_option maxRecDepth 20000 in
theorem h_X3_keep_X3 : ∀ w ∈ wsX30, w ∈ wsX3_keep := by decide +kernel
set_option maxRecDepth 20000 in
theorem k_X3_keep_11 : ZF wsX3_keep RX3 11 3 0 RX3 TX3 3 := ⟨rfl, by decide, h_X3_keep_X3, by decide +kernel⟩
set_option maxRecDepth 20000 in
theorem k_X3_keep_17 : ZF wsX3_keep RX3 17 3 1 RX3 TX3 3 := ⟨rfl, by decide, h_X3_keep_X3, by decide +kernel⟩
set_option maxRecDepth 20000 in
theorem k_X3_keep_21 : ZF wsX3_keep RX3 21 3 2 RX3 TX3 3 := ⟨rfl, by decide, h_X3_keep_X3, by decide +kernel⟩
set_option maxRecDepth 20000 in
theorem h_X3_keep_X9n : ∀ w ∈ wsX90, w ∈ wsX3_keep := by decide +kernel
set_option maxRecDepth 20000 in
theorem k_X3_keep_o9 : ZO wsX3_keep RX3 9 9 RX9 TX9 7 := ⟨rfl, h_X3_keep_X9n, by decide +kernel, by decide +kernel, by decide +kernel⟩
set_option maxRecDepth 20000 in
theorem k_X3_keep_i1 : Cond.initialized RX9 ∈ wsX3_keep := by decide +kernel
set_option maxRecDepth 20000 in
theorem k_X3_keep_i2 : Cond.methodLink RX3 28 yX9_init ∈ wsX3_keep := by decide +kernel
set_option maxRecDepth 20000 in
theorem k_X3_keep_i3 : Cond.instanceMethod yX9_init ∈ wsX3_keep := by decide +kernel
set_option maxHeartbeats 8000000 in
set_option maxRecDepth 100000 in
theorem c_X3_keep (l : Launch) (D : va_G) (cA : Nat → ClassId) (g : Nat → Nat) (sz : Nat) (h_t : Nat) (a_t : Nat → Nat) (o_t : Ob) (h_p1 : Nat) (a_p1 : Nat → Nat) (o_p1 : Ob) (a_p1_wares : Nat → Nat) (o_p1_wares : Ob) (a_p1_shelf : Nat → Nat) (o_p1_shelf : Ob) (a_p1_log : Nat → Nat) (o_p1_log : Ob) (a_p1_b0 : Nat → Nat) (o_p1_b0 : Ob) (a_p1_b1 : Nat → Nat) (o_p1_b1 : Ob) (a_p1_b2 : Nat → Nat) (o_p1_b2 : Ob) (pl : va_W) (P : PV)  (o_t' : Ob) (P' : PV) (hpl : Pool cA (a_t 0) 8 P pl) (hF : f_X3_keep o_t o_p1 o_p1_wares o_p1_shelf o_p1_log o_p1_b0 o_p1_b1 o_p1_b2 P = some (o_t', P')) : Met l yX3_keep wsX3_keep ({ frames := 3, cells := 28, slots := 823, locals := 91 }) (va_Pc [.ref h_t, .ref h_p1] (PreN D cA g sz ((w_X3_keep cA h_t a_t o_t h_p1 a_p1 o_p1 a_p1_wares o_p1_wares a_p1_shelf o_p1_shelf a_p1_log o_p1_log a_p1_b0 o_p1_b0 a_p1_b1 o_p1_b1 a_p1_b2 o_p1_b2) ++ pl))) (va_Qv (fun (_ : va_W) => True) (PostT D cA sz ((w_X3_keep cA h_t a_t o_t h_p1 a_p1 o_p1 a_p1_wares o_p1_wares a_p1_shelf o_p1_shelf a_p1_log o_p1_log a_p1_b0 o_p1_b0 a_p1_b1 o_p1_b1 a_p1_b2 o_p1_b2) ++ pl) (w_X3_keep cA h_t a_t o_t' h_p1 a_p1 o_p1 a_p1_wares o_p1_wares a_p1_shelf o_p1_shelf a_p1_log o_p1_log a_p1_b0 o_p1_b0 a_p1_b1 o_p1_b1 a_p1_b2 o_p1_b2) (Pool cA (a_t 0) 8 P')) (va_A ((w_X3_keep cA h_t a_t o_t h_p1 a_p1 o_p1 a_p1_wares o_p1_wares a_p1_shelf o_p1_shelf a_p1_log o_p1_log a_p1_b0 o_p1_b0 a_p1_b1 o_p1_b1 a_p1_b2 o_p1_b2) ++ pl) sz)) 28 823 (va_A ((w_X3_keep cA h_t a_t o_t h_p1 a_p1 o_p1 a_p1_wares o_p1_wares a_p1_shelf o_p1_shelf a_p1_log o_p1_log a_p1_b0 o_p1_b0 a_p1_b1 o_p1_b1 a_p1_b2 o_p1_b2) ++ pl) sz) := by
  refine z_startN (y := yX3_keep) (wsy := wsX3_keep) (av := [.ref h_t, .ref h_p1]) (w0 := ((w_X3_keep cA h_t a_t o_t h_p1 a_p1 o_p1 a_p1_wares o_p1_wares a_p1_shelf o_p1_shelf a_p1_log o_p1_log a_p1_b0 o_p1_b0 a_p1_b1 o_p1_b1 a_p1_b2 o_p1_b2) ++ pl)) (cc := cX3_keep) (maxL := 3) (ret := none) (lv0 := [(0, .ref h_t), (1, .ref h_p1)]) (Qc := fun sz => va_Qv (fun (_ : va_W) => True) (PostT D cA sz ((w_X3_keep cA h_t a_t o_t h_p1 a_p1 o_p1 a_p1_wares o_p1_wares a_p1_shelf o_p1_shelf a_p1_log o_p1_log a_p1_b0 o_p1_b0 a_p1_b1 o_p1_b1 a_p1_b2 o_p1_b2) ++ pl) (w_X3_keep cA h_t a_t o_t' h_p1 a_p1 o_p1 a_p1_wares o_p1_wares a_p1_shelf o_p1_shelf a_p1_log o_p1_log a_p1_b0 o_p1_b0 a_p1_b1 o_p1_b1 a_p1_b2 o_p1_b2) (Pool cA (a_t 0) 8 P')) (va_A ((w_X3_keep cA h_t a_t o_t h_p1 a_p1 o_p1 a_p1_wares o_p1_wares a_p1_shelf o_p1_shelf a_p1_log o_p1_log a_p1_b0 o_p1_b0 a_p1_b1 o_p1_b1 a_p1_b2 o_p1_b2) ++ pl) sz)) (free := fun sz => va_A ((w_X3_keep cA h_t a_t o_t h_p1 a_p1 o_p1 a_p1_wares o_p1_wares a_p1_shelf o_p1_shelf a_p1_log o_p1_log a_p1_b0 o_p1_b0 a_p1_b1 o_p1_b1 a_p1_b2 o_p1_b2) ++ pl) sz) (by decide) rfl rfl (Nat.le_of_ble_eq_true rfl) ?_
  intro p e R s m args below meth c A Q hR hA hQ X Y hr hin
  unfold f_X3_keep at hF
  refine z_aload_n X dX3_keep_0 rfl 0 rfl ?_
  refine z_get (v := .int (o_t 2 0)) X k_X3_keep_21 0 rfl rfl dX3_keep_1 ?_
  refine z_bipush (v := (8 : Int32)) X dX3_keep_4 (by decide) ?_
  obtain ⟨K7, eK7, hF⟩ := nx_e hF
  have K7_l : ∀ (q6 : Ob), K7 q6 = some (o_t', P') → ZW p l e R s m args below meth c D A 3 0 0 Q ((w_X3_keep cA h_t a_t q6 h_p1 a_p1 o_p1 a_p1_wares o_p1_wares a_p1_shelf o_p1_shelf a_p1_log o_p1_log a_p1_b0 o_p1_b0 a_p1_b1 o_p1_b1 a_p1_b2 o_p1_b2) ++ pl) [(0, .ref h_t), (1, .ref h_p1)] 28 [] := by
    intro q6 hF
    rw [eK7] at hF
    refine z_aload_n X dX3_keep_28 rfl 0 rfl ?_
    refine z_aload_n X dX3_keep_29 rfl 0 rfl ?_
    refine z_get (v := .int (q6 2 0)) X k_X3_keep_21 0 rfl rfl dX3_keep_30 ?_
    obtain ⟨r8, hc9, hF⟩ := zb1_e hF
    refine z_ViT (As := [.int (q6 2 0)]) (rest := []) (wc := (w_X3_place cA h_t a_t q6)) (wc' := (w_X3_place cA h_t a_t q6)) (X1 := (w_X3_keep cA h_t a_t q6 h_p1 a_p1 o_p1 a_p1_wares o_p1_wares a_p1_shelf o_p1_shelf a_p1_log o_p1_log a_p1_b0 o_p1_b0 a_p1_b1 o_p1_b1 a_p1_b2 o_p1_b2)) (rv := r8) X (cwV 1 X.2.2.2.2.1 gX3_keep_X3_place rfl rfl rfl (by decide +kernel) (by rw [hR]; exact ⟨Nat.le_of_ble_eq_true rfl, Nat.le_of_ble_eq_true rfl⟩)) (fun sz => c_X3_place l D cA g sz h_t a_t q6 (q6 2 0) r8 hc9) [0] [1000, 1, 2, 3, 4, 5, 6, 7, 8, 9, 10, 11, 12, 13, 14, 15, 16, 17, 18, 19, 20, 21, 22, 23, 24, 25, 26, 27, 28] rfl (by decide) rfl (by decide) rfl rfl rfl rfl rfl rfl (Nat.le_of_ble_eq_true rfl) dX3_keep_33 (by rw [hR]; exact ⟨Nat.le_of_ble_eq_true rfl, Nat.le_of_ble_eq_true rfl⟩) ?_
    refine z_istore_n (lv' := [(2, .int r8), (0, .ref h_t), (1, .ref h_p1)]) X dX3_keep_36 rfl (by decide) rfl ?_
    obtain ⟨g19, hF⟩ := gi_e hF
    obtain ⟨o10, o11, o12, o13, o14, o15, o16, hc18, hF⟩ := zb7_e hF
    obtain ⟨P17, eP17, hF⟩ := nx_e hF
    have KK : ∀ pl20 : va_W, Pool cA (a_t 0) 8 P17 pl20 → ZW p l e R s m args below meth c D A 3 28 823 Q ((w_X3_keep cA h_t a_t q6 h_p1 a_p1 o_p1 a_p1_wares o_p1_wares a_p1_shelf o_p1_shelf a_p1_log o_p1_log a_p1_b0 o_p1_b0 a_p1_b1 o_p1_b1 a_p1_b2 o_p1_b2) ++ pl20) [(2, .int r8), (0, .ref h_t), (1, .ref h_p1)] 69 [] := by
      intro pl20 hp21
      refine z_aload_n X dX3_keep_69 rfl 1 rfl ?_
      refine z_dup X dX3_keep_70 rfl ?_
      refine z_get (v := .int (q6 2 0)) X k_X3_keep_21 0 rfl rfl dX3_keep_71 ?_
      refine z_iconst (v := (1 : Int32)) X dX3_keep_74 (by decide) ?_
      refine z_iadd X dX3_keep_75 ?_
      obtain ⟨o22, eo22, hF⟩ := nx_e hF
      refine z_put (ws' := ((w_X3_keep cA h_t a_t o22 h_p1 a_p1 o_p1 a_p1_wares o_p1_wares a_p1_shelf o_p1_shelf a_p1_log o_p1_log a_p1_b0 o_p1_b0 a_p1_b1 o_p1_b1 a_p1_b2 o_p1_b2) ++ pl20)) X k_X3_keep_21 tyX3 tyX3_ok nmX3 rfl rfl 0 rfl (Nat.le_of_ble_eq_true rfl) (by rw [eo22]; rfl) dX3_keep_76 ?_
      cases hF
      exact z_vretT X hA hQ hr hp21 dX3_keep_79 (Nat.le_of_ble_eq_true rfl) (Nat.le_of_ble_eq_true rfl)
    have hlt : (Int32.toNatClampNeg r8) < 8 := Nat.not_le.mp fun h => g19 (Or.inr h)
    cases hPa : P (Int32.toNatClampNeg r8) with
    | none =>
      obtain ⟨hs, pl0, hn, hp, hput, -⟩ := hpl.none hlt hPa
      rw [hPa] at hc18
      refine z_perm (hp.append_left _) ?_
      refine z_aload_n X dX3_keep_37 rfl 1 rfl ?_
      refine z_get (v := .ref (a_t 0)) X k_X3_keep_11 0 rfl rfl dX3_keep_38 ?_
      refine z_iload_n X dX3_keep_41 rfl 0 rfl ?_
      refine z_aldS (r := none) X 29 rfl g19 hn dX3_keep_42 ?_
      refine z_ifnn0 X dX3_keep_43 ?_
      refine z_aload_n X dX3_keep_46 rfl 1 rfl ?_
      refine z_get (v := .ref (a_t 0)) X k_X3_keep_11 0 rfl rfl dX3_keep_47 ?_
      refine z_iload_n X dX3_keep_50 rfl 0 rfl ?_
      refine z_new X k_X3_keep_o9 tyX9 tyX9_ok [.null, .null, .null, .null, .int 0, .int 0, .int 0] (fun j hj => by match j, hj with | 0, _ => rfl | 1, _ => rfl | 2, _ => rfl | 3, _ => rfl | 4, _ => rfl | 5, _ => rfl | 6, _ => rfl | (z + 7), hz => exact absurd hz (by omega)) (by rw [hR]; exact Nat.le_of_ble_eq_true rfl) (by rw [hR]; exact Nat.le_of_ble_eq_true rfl) dX3_keep_51 (fun qn => ?_)
      refine z_dup X dX3_keep_54 rfl ?_
      refine z_I (As := []) (rest := [.ref qn, .int r8, .ref (a_t 0)]) (w0 := ((w_X3_keep cA h_t a_t q6 h_p1 a_p1 o_p1 a_p1_wares o_p1_wares a_p1_shelf o_p1_shelf a_p1_log o_p1_log a_p1_b0 o_p1_b0 a_p1_b1 o_p1_b1 a_p1_b2 o_p1_b2) ++ (kc cA (a_t 0) 8 hs :: pl0))) (wf := fun u => [(qn, .inr (9, [.ref ((u 0) 0), .ref ((u 0) 1), .ref ((u 0) 2), .ref ((u 0) 3), .int (oz 4 0), .int (oz 5 0), .int (oz 6 0)])), ((u 0) 3, .inl (cA 4, 3, .inr (.inr (.inr (.inr (bk ((u 0) 20) ((u 0) 21) ((u 0) 22))))))), ((u 0 0), .inr (10, [.int (oz 0 0), .ref (((fun i => u (i + 1)) 0) 1), .ref (((fun i => u (i + 1)) 0) 2), .ref (((fun i => u (i + 1)) 0) 3), .ref (((fun i => u (i + 1)) 0) 4)])), (((fun i => u (i + 1)) 0) 1, .inl (cA 0, 8, .inl (oz 1))), (((fun i => u (i + 1)) 0) 2, .inl (cA 0, 8, .inl (oz 2))), (((fun i => u (i + 1)) 0) 3, .inl (cA 0, 8, .inl (oz 3))), (((fun i => u (i + 1)) 0) 4, .inl (cA 0, 8, .inl (oz 4))), ((u 0 1), .inr (8, [.int ((si (si oz 0 (6 : Int32)) 1 (1 : Int32)) 0 0), .int ((si (si oz 0 (6 : Int32)) 1 (1 : Int32)) 1 0), .int ((si (si oz 0 (6 : Int32)) 1 (1 : Int32)) 2 0), .int ((si (si oz 0 (6 : Int32)) 1 (1 : Int32)) 3 0), .ref (((fun i => u (i + 2)) 0) 4), .ref (((fun i => u (i + 2)) 0) 5), .ref (((fun i => u (i + 2)) 0) 6)])), (((fun i => u (i + 2)) 0) 4, .inl (cA 0, 8, .inl ((si (si oz 0 (6 : Int32)) 1 (1 : Int32)) 4))), (((fun i => u (i + 2)) 0) 5, .inl (cA 0, 8, .inl ((si (si oz 0 (6 : Int32)) 1 (1 : Int32)) 5))), (((fun i => u (i + 2)) 0) 6, .inl (cA 1, 8, .inr (.inr (.inl (fun j => ((si (si oz 0 (6 : Int32)) 1 (1 : Int32)) 6 j).toUInt32))))), ((u 0 2), .inr (4, [.int (oz 0 0), .ref (((fun i => u (i + 3)) 0) 1), .ref (((fun i => u (i + 3)) 0) 2), .ref (((fun i => u (i + 3)) 0) 3), .ref (((fun i => u (i + 3)) 0) 4)])), (((fun i => u (i + 3)) 0) 1, .inl (cA 0, 40, .inl (oz 1))), (((fun i => u (i + 3)) 0) 2, .inl (cA 0, 40, .inl (oz 2))), (((fun i => u (i + 3)) 0) 3, .inl (cA 0, 40, .inl (oz 3))), (((fun i => u (i + 3)) 0) 4, .inl (cA 0, 320, .inl (oz 4))), ((u 0 20), .inr (0, [.int (oz 0 0), .int (oz 1 0), .int (oz 2 0), .int (oz 3 0), .int (oz 4 0), .int (oz 5 0), .int (oz 6 0), .ref (((fun i => u (i + 4)) 0) 7), .ref (((fun i => u (i + 4)) 0) 8), .ref (((fun i => u (i + 4)) 0) 9)])), (((fun i => u (i + 4)) 0) 7, .inl (cA 0, 30, .inl (oz 7))), (((fun i => u (i + 4)) 0) 8, .inl (cA 0, 30, .inl (oz 8))), (((fun i => u (i + 4)) 0) 9, .inl (cA 0, 30, .inl (oz 9))), ((u 0 21), .inr (0, [.int (oz 0 0), .int (oz 1 0), .int (oz 2 0), .int (oz 3 0), .int (oz 4 0), .int (oz 5 0), .int (oz 6 0), .ref (((fun i => u (i + 5)) 0) 7), .ref (((fun i => u (i + 5)) 0) 8), .ref (((fun i => u (i + 5)) 0) 9)])), (((fun i => u (i + 5)) 0) 7, .inl (cA 0, 30, .inl (oz 7))), (((fun i => u (i + 5)) 0) 8, .inl (cA 0, 30, .inl (oz 8))), (((fun i => u (i + 5)) 0) 9, .inl (cA 0, 30, .inl (oz 9))), ((u 0 22), .inr (0, [.int (oz 0 0), .int (oz 1 0), .int (oz 2 0), .int (oz 3 0), .int (oz 4 0), .int (oz 5 0), .int (oz 6 0), .ref (((fun i => u (i + 6)) 0) 7), .ref (((fun i => u (i + 6)) 0) 8), .ref (((fun i => u (i + 6)) 0) 9)])), (((fun i => u (i + 6)) 0) 7, .inl (cA 0, 30, .inl (oz 7))), (((fun i => u (i + 6)) 0) 8, .inl (cA 0, 30, .inl (oz 8))), (((fun i => u (i + 6)) 0) 9, .inl (cA 0, 30, .inl (oz 9)))]) X Y (cwI 0 X.2.2.2.2.1 gX3_keep_X9_init rfl rfl rfl (X.2.2.2.2.1 (.initialized RX9) k_X3_keep_i1) (X.2.2.2.2.1 (.methodLink RX3 28 yX9_init) k_X3_keep_i2) (X.2.2.2.2.1 (.instanceMethod yX9_init) k_X3_keep_i3) rfl (by decide +kernel) (by rw [hR]; exact ⟨Nat.le_of_ble_eq_true rfl, Nat.le_of_ble_eq_true rfl⟩)) (fun sz => i_X9_init l D cA g sz qn) rfl rfl rfl (Nat.le_of_ble_eq_true rfl) dX3_keep_55 (by rw [hR]; exact ⟨Nat.le_of_ble_eq_true rfl, Nat.le_of_ble_eq_true rfl⟩) (fun u => ?_)
      refine z_perm (pm_new (w := (w_X3_keep cA h_t a_t q6 h_p1 a_p1 o_p1 a_p1_wares o_p1_wares a_p1_shelf o_p1_shelf a_p1_log o_p1_log a_p1_b0 o_p1_b0 a_p1_b1 o_p1_b1 a_p1_b2 o_p1_b2)) (k := kc cA (a_t 0) 8 hs) (pl0 := pl0) (S := wSt cA qn u V9) rfl) ?_
      refine z_astSt (ws' := ((w_X3_keep cA h_t a_t q6 h_p1 a_p1 o_p1 a_p1_wares o_p1_wares a_p1_shelf o_p1_shelf a_p1_log o_p1_log a_p1_b0 o_p1_b0 a_p1_b1 o_p1_b1 a_p1_b2 o_p1_b2) ++ (kc cA (a_t 0) 8 (va_up hs (Int32.toNatClampNeg r8) (some qn)) :: (wSt cA qn u V9 ++ pl0)))) X 29 30 rfl rfl g19 rfl dX3_keep_58 ?_
      refine z_aload_n X dX3_keep_59 rfl 1 rfl ?_
      refine z_get (v := .ref (a_t 0)) X k_X3_keep_11 0 rfl rfl dX3_keep_60 ?_
      refine z_iload_n X dX3_keep_63 rfl 0 rfl ?_
      refine z_aldS (r := some qn) X 29 rfl g19 (by unfold va_up; rw [if_pos rfl]) dX3_keep_64 ?_
      refine z_aload_n X dX3_keep_65 rfl 2 rfl ?_
      refine z_ws (ws' := (((w_X3_keep cA h_t a_t q6 h_p1 a_p1 o_p1 a_p1_wares o_p1_wares a_p1_shelf o_p1_shelf a_p1_log o_p1_log a_p1_b0 o_p1_b0 a_p1_b1 o_p1_b1 a_p1_b2 o_p1_b2) ++ (kc cA (a_t 0) 8 (va_up hs (Int32.toNatClampNeg r8) (some qn)) :: wSt cA qn u V9)) ++ pl0)) rfl ?_
      refine z_VvT (As := [.ref h_p1]) (rest := []) (wc := (w_X9_copyFrom cA qn (u 0) (V9 0) (u 1) (V9 1) (u 2) (V9 2) (u 3) (V9 3) (u 4) (V9 4) (u 5) (V9 5) (u 6) (V9 6) h_p1 a_p1 o_p1 a_p1_wares o_p1_wares a_p1_shelf o_p1_shelf a_p1_log o_p1_log a_p1_b0 o_p1_b0 a_p1_b1 o_p1_b1 a_p1_b2 o_p1_b2)) (wc' := (w_X9_copyFrom cA qn (u 0) o10 (u 1) o11 (u 2) o12 (u 3) o13 (u 4) o14 (u 5) o15 (u 6) o16 h_p1 a_p1 o_p1 a_p1_wares o_p1_wares a_p1_shelf o_p1_shelf a_p1_log o_p1_log a_p1_b0 o_p1_b0 a_p1_b1 o_p1_b1 a_p1_b2 o_p1_b2)) (X0 := ((w_X3_keep cA h_t a_t q6 h_p1 a_p1 o_p1 a_p1_wares o_p1_wares a_p1_shelf o_p1_shelf a_p1_log o_p1_log a_p1_b0 o_p1_b0 a_p1_b1 o_p1_b1 a_p1_b2 o_p1_b2) ++ (kc cA (a_t 0) 8 (va_up hs (Int32.toNatClampNeg r8) (some qn)) :: wSt cA qn u V9))) (X1 := ((w_X3_keep cA h_t a_t q6 h_p1 a_p1 o_p1 a_p1_wares o_p1_wares a_p1_shelf o_p1_shelf a_p1_log o_p1_log a_p1_b0 o_p1_b0 a_p1_b1 o_p1_b1 a_p1_b2 o_p1_b2) ++ (kc cA (a_t 0) 8 (va_up hs (Int32.toNatClampNeg r8) (some qn)) :: wSt cA qn u (v7 o10 o11 o12 o13 o14 o15 o16)))) (pl := pl0) X (cwV 1 X.2.2.2.2.1 gX3_keep_X9_copyFrom rfl rfl rfl (by decide +kernel) (by rw [hR]; exact ⟨Nat.le_of_ble_eq_true rfl, Nat.le_of_ble_eq_true rfl⟩)) (fun sz => c_X9_copyFrom l D cA g sz qn (u 0) (V9 0) (u 1) (V9 1) (u 2) (V9 2) (u 3) (V9 3) (u 4) (V9 4) (u 5) (V9 5) (u 6) (V9 6) h_p1 a_p1 o_p1 a_p1_wares o_p1_wares a_p1_shelf o_p1_shelf a_p1_log o_p1_log a_p1_b0 o_p1_b0 a_p1_b1 o_p1_b1 a_p1_b2 o_p1_b2 o10 o11 o12 o13 o14 o15 o16 hc18) [30, 31, 32, 33, 34, 35, 36, 37, 38, 39, 40, 41, 42, 43, 44, 45, 46, 47, 48, 49, 50, 51, 52, 53, 54, 55, 56, 57, 1, 2, 3, 4, 5, 6, 7, 8, 9, 10, 11, 12, 13, 14, 15, 16, 17, 18, 19, 20, 21, 22, 23, 24, 25, 26, 27, 28] [0, 1028, 1029, 1030, 1031, 1032, 1033, 1034, 1035, 1036, 1037, 1038, 1039, 1040, 1041, 1042, 1043, 1044, 1045, 1046, 1047, 1048, 1049, 1050, 1051, 1052, 1053, 1054, 1055, 29, 1000, 1001, 1002, 1003, 1004, 1005, 1006, 1007, 1008, 1009, 1010, 1011, 1012, 1013, 1014, 1015, 1016, 1017, 1018, 1019, 1020, 1021, 1022, 1023, 1024, 1025, 1026, 1027] rfl (by decide) rfl (by decide) rfl rfl rfl rfl rfl rfl (Nat.le_of_ble_eq_true rfl) dX3_keep_66 (by rw [hR]; exact ⟨Nat.le_of_ble_eq_true rfl, Nat.le_of_ble_eq_true rfl⟩) ?_
      refine z_ws (ws' := ((w_X3_keep cA h_t a_t q6 h_p1 a_p1 o_p1 a_p1_wares o_p1_wares a_p1_shelf o_p1_shelf a_p1_log o_p1_log a_p1_b0 o_p1_b0 a_p1_b1 o_p1_b1 a_p1_b2 o_p1_b2) ++ (kc cA (a_t 0) 8 (va_up hs (Int32.toNatClampNeg r8) (some qn)) :: (wSt cA qn u (v7 o10 o11 o12 o13 o14 o15 o16) ++ pl0)))) rfl ?_
      exact z_widen (Nat.le_of_ble_eq_true rfl) (Nat.le_of_ble_eq_true rfl) (KK _ (by rw [eP17]; exact hput qn u _))
    | some VV =>
      obtain ⟨hs, qn, u, pl0, hn, hp, hput, -⟩ := hpl.some hlt hPa
      rw [hPa] at hc18
      refine z_perm (hp.append_left _) ?_
      refine z_aload_n X dX3_keep_37 rfl 1 rfl ?_
      refine z_get (v := .ref (a_t 0)) X k_X3_keep_11 0 rfl rfl dX3_keep_38 ?_
      refine z_iload_n X dX3_keep_41 rfl 0 rfl ?_
      refine z_aldS (r := some qn) X 29 rfl g19 hn dX3_keep_42 ?_
      refine z_ifnn1 (tgt := 59) X dX3_keep_43 (by decide) ?_
      refine z_aload_n X dX3_keep_59 rfl 1 rfl ?_
      refine z_get (v := .ref (a_t 0)) X k_X3_keep_11 0 rfl rfl dX3_keep_60 ?_
      refine z_iload_n X dX3_keep_63 rfl 0 rfl ?_
      refine z_aldS (r := some qn) X 29 rfl g19 hn dX3_keep_64 ?_
      refine z_aload_n X dX3_keep_65 rfl 2 rfl ?_
      refine z_ws (ws' := (((w_X3_keep cA h_t a_t q6 h_p1 a_p1 o_p1 a_p1_wares o_p1_wares a_p1_shelf o_p1_shelf a_p1_log o_p1_log a_p1_b0 o_p1_b0 a_p1_b1 o_p1_b1 a_p1_b2 o_p1_b2) ++ (kc cA (a_t 0) 8 hs :: wSt cA qn u VV)) ++ pl0)) rfl ?_
      refine z_VvT (As := [.ref h_p1]) (rest := []) (wc := (w_X9_copyFrom cA qn (u 0) (VV 0) (u 1) (VV 1) (u 2) (VV 2) (u 3) (VV 3) (u 4) (VV 4) (u 5) (VV 5) (u 6) (VV 6) h_p1 a_p1 o_p1 a_p1_wares o_p1_wares a_p1_shelf o_p1_shelf a_p1_log o_p1_log a_p1_b0 o_p1_b0 a_p1_b1 o_p1_b1 a_p1_b2 o_p1_b2)) (wc' := (w_X9_copyFrom cA qn (u 0) o10 (u 1) o11 (u 2) o12 (u 3) o13 (u 4) o14 (u 5) o15 (u 6) o16 h_p1 a_p1 o_p1 a_p1_wares o_p1_wares a_p1_shelf o_p1_shelf a_p1_log o_p1_log a_p1_b0 o_p1_b0 a_p1_b1 o_p1_b1 a_p1_b2 o_p1_b2)) (X0 := ((w_X3_keep cA h_t a_t q6 h_p1 a_p1 o_p1 a_p1_wares o_p1_wares a_p1_shelf o_p1_shelf a_p1_log o_p1_log a_p1_b0 o_p1_b0 a_p1_b1 o_p1_b1 a_p1_b2 o_p1_b2) ++ (kc cA (a_t 0) 8 hs :: wSt cA qn u VV))) (X1 := ((w_X3_keep cA h_t a_t q6 h_p1 a_p1 o_p1 a_p1_wares o_p1_wares a_p1_shelf o_p1_shelf a_p1_log o_p1_log a_p1_b0 o_p1_b0 a_p1_b1 o_p1_b1 a_p1_b2 o_p1_b2) ++ (kc cA (a_t 0) 8 hs :: wSt cA qn u (v7 o10 o11 o12 o13 o14 o15 o16)))) (pl := pl0) X (cwV 1 X.2.2.2.2.1 gX3_keep_X9_copyFrom rfl rfl rfl (by decide +kernel) (by rw [hR]; exact ⟨Nat.le_of_ble_eq_true rfl, Nat.le_of_ble_eq_true rfl⟩)) (fun sz => c_X9_copyFrom l D cA g sz qn (u 0) (VV 0) (u 1) (VV 1) (u 2) (VV 2) (u 3) (VV 3) (u 4) (VV 4) (u 5) (VV 5) (u 6) (VV 6) h_p1 a_p1 o_p1 a_p1_wares o_p1_wares a_p1_shelf o_p1_shelf a_p1_log o_p1_log a_p1_b0 o_p1_b0 a_p1_b1 o_p1_b1 a_p1_b2 o_p1_b2 o10 o11 o12 o13 o14 o15 o16 hc18) [30, 31, 32, 33, 34, 35, 36, 37, 38, 39, 40, 41, 42, 43, 44, 45, 46, 47, 48, 49, 50, 51, 52, 53, 54, 55, 56, 57, 1, 2, 3, 4, 5, 6, 7, 8, 9, 10, 11, 12, 13, 14, 15, 16, 17, 18, 19, 20, 21, 22, 23, 24, 25, 26, 27, 28] [0, 1028, 1029, 1030, 1031, 1032, 1033, 1034, 1035, 1036, 1037, 1038, 1039, 1040, 1041, 1042, 1043, 1044, 1045, 1046, 1047, 1048, 1049, 1050, 1051, 1052, 1053, 1054, 1055, 29, 1000, 1001, 1002, 1003, 1004, 1005, 1006, 1007, 1008, 1009, 1010, 1011, 1012, 1013, 1014, 1015, 1016, 1017, 1018, 1019, 1020, 1021, 1022, 1023, 1024, 1025, 1026, 1027] rfl (by decide) rfl (by decide) rfl rfl rfl rfl rfl rfl (Nat.le_of_ble_eq_true rfl) dX3_keep_66 (by rw [hR]; exact ⟨Nat.le_of_ble_eq_true rfl, Nat.le_of_ble_eq_true rfl⟩) ?_
      refine z_ws (ws' := ((w_X3_keep cA h_t a_t q6 h_p1 a_p1 o_p1 a_p1_wares o_p1_wares a_p1_shelf o_p1_shelf a_p1_log o_p1_log a_p1_b0 o_p1_b0 a_p1_b1 o_p1_b1 a_p1_b2 o_p1_b2) ++ (kc cA (a_t 0) 8 hs :: (wSt cA qn u (v7 o10 o11 o12 o13 o14 o15 o16) ++ pl0)))) rfl ?_
      exact z_widen (Nat.le_of_ble_eq_true rfl) (Nat.le_of_ble_eq_true rfl) (KK _ (by rw [eP17]; exact hput _))
  have hF := if_e hF
  refine z_icmp_ne (tgt := 28) X dX3_keep_6 (by decide) (fun c27 => ?_) (fun c27 => ?_)
  · have hF := hF.2 c27
    refine z_lv (lv' := [(0, .ref h_t), (1, .ref h_p1)]) [0, 1] rfl ?_
    exact K7_l o_t hF
  · have hF := hF.1 c27
    refine z_aload_n X dX3_keep_9 rfl 0 rfl ?_
    refine z_aload_n X dX3_keep_10 rfl 0 rfl ?_
    refine z_iconst (v := (1 : Int32)) X dX3_keep_11 (by decide) ?_
    obtain ⟨r23, hc24, hF⟩ := zb1_e hF
    refine z_ViT (As := [.int (1 : Int32)]) (rest := [.ref h_t]) (wc := (w_X3_place cA h_t a_t o_t)) (wc' := (w_X3_place cA h_t a_t o_t)) (X1 := (w_X3_keep cA h_t a_t o_t h_p1 a_p1 o_p1 a_p1_wares o_p1_wares a_p1_shelf o_p1_shelf a_p1_log o_p1_log a_p1_b0 o_p1_b0 a_p1_b1 o_p1_b1 a_p1_b2 o_p1_b2)) (rv := r23) X (cwV 1 X.2.2.2.2.1 gX3_keep_X3_place rfl rfl rfl (by decide +kernel) (by rw [hR]; exact ⟨Nat.le_of_ble_eq_true rfl, Nat.le_of_ble_eq_true rfl⟩)) (fun sz => c_X3_place l D cA g sz h_t a_t o_t (1 : Int32) r23 hc24) [0] [1000, 1, 2, 3, 4, 5, 6, 7, 8, 9, 10, 11, 12, 13, 14, 15, 16, 17, 18, 19, 20, 21, 22, 23, 24, 25, 26, 27, 28] rfl (by decide) rfl (by decide) rfl rfl rfl rfl rfl rfl (Nat.le_of_ble_eq_true rfl) dX3_keep_12 (by rw [hR]; exact ⟨Nat.le_of_ble_eq_true rfl, Nat.le_of_ble_eq_true rfl⟩) ?_
    obtain ⟨o25, eo25, hF⟩ := nx_e hF
    refine z_put (ws' := ((w_X3_keep cA h_t a_t o25 h_p1 a_p1 o_p1 a_p1_wares o_p1_wares a_p1_shelf o_p1_shelf a_p1_log o_p1_log a_p1_b0 o_p1_b0 a_p1_b1 o_p1_b1 a_p1_b2 o_p1_b2) ++ pl)) X k_X3_keep_17 tyX3 tyX3_ok nmX3 rfl rfl 0 rfl (Nat.le_of_ble_eq_true rfl) (by rw [eo25]; rfl) dX3_keep_15 ?_
    refine z_aload_n X dX3_keep_18 rfl 0 rfl ?_
    refine z_dup X dX3_keep_19 rfl ?_
    refine z_get (v := .int (o25 2 0)) X k_X3_keep_21 0 rfl rfl dX3_keep_20 ?_
    refine z_iconst (v := (1 : Int32)) X dX3_keep_23 (by decide) ?_
    refine z_isub X dX3_keep_24 ?_
    obtain ⟨o26, eo26, hF⟩ := nx_e hF
    refine z_put (ws' := ((w_X3_keep cA h_t a_t o26 h_p1 a_p1 o_p1 a_p1_wares o_p1_wares a_p1_shelf o_p1_shelf a_p1_log o_p1_log a_p1_b0 o_p1_b0 a_p1_b1 o_p1_b1 a_p1_b2 o_p1_b2) ++ pl)) X k_X3_keep_21 tyX3 tyX3_ok nmX3 rfl rfl 0 rfl (Nat.le_of_ble_eq_true rfl) (by rw [eo26]; rfl) dX3_keep_25 ?_
    refine z_lv (lv' := [(0, .ref h_t), (1, .ref h_p1)]) [0, 1] rfl ?_
    exact K7_l o26 hF
def f_X3_takeBack (o_t : Ob) (o_p1 : Ob) (o_p1_wares : Ob) (o_p1_shelf : Ob) (o_p1_log : Ob) (o_p1_b0 : Ob) (o_p1_b1 : Ob) (o_p1_b2 : Ob) (P : PV) : Option (Ob × Ob × Ob × Ob × Ob × Ob × Ob × Ob × Int32) :=
  if (1 : Int32) ≤ o_t 2 0 then (
  zb1 (f_X3_place o_t ((o_t 2 0) - (1 : Int32))) fun (r1 : Int32) =>
  gi r1 8 <|
  zp (P (Int32.toNatClampNeg r1)) (
  some (o_t, o_p1, o_p1_wares, o_p1_shelf, o_p1_log, o_p1_b0, o_p1_b1, o_p1_b2, (0 : Int32))
  ) fun VV => (
  nx (si o_t 2 ((o_t 2 0) - (1 : Int32))) fun o4 =>
  zb7 (f_X9_copyFrom o_p1 o_p1_wares o_p1_shelf o_p1_log o_p1_b0 o_p1_b1 o_p1_b2 (VV 0) (VV 1) (VV 2) (VV 3) (VV 4) (VV 5) (VV 6)) fun (o5 : Ob) (o6 : Ob) (o7 : Ob) (o8 : Ob) (o9 : Ob) (o10 : Ob) (o11 : Ob) =>
  some (o4, o5, o6, o7, o8, o9, o10, o11, (1 : Int32))
  )
  ) else (
  some (o_t, o_p1, o_p1_wares, o_p1_shelf, o_p1_log, o_p1_b0, o_p1_b1, o_p1_b2, (0 : Int32))
  )
set_option maxRecDepth 20000 in
theorem h_X3_takeBack_X3 : ∀ w ∈ wsX30, w ∈ wsX3_takeBack := by decide +kernel
set_option maxRecDepth 20000 in
theorem k_X3_takeBack_11 : ZF wsX3_takeBack RX3 11 3 0 RX3 TX3 3 := ⟨rfl, by decide, h_X3_takeBack_X3, by decide +kernel⟩
set_option maxRecDepth 20000 in
theorem k_X3_takeBack_21 : ZF wsX3_takeBack RX3 21 3 2 RX3 TX3 3 := ⟨rfl, by decide, h_X3_takeBack_X3, by decide +kernel⟩
set_option maxHeartbeats 8000000 in
set_option maxRecDepth 100000 in
theorem c_X3_takeBack (l : Launch) (D : va_G) (cA : Nat → ClassId) (g : Nat → Nat) (sz : Nat) (h_t : Nat) (a_t : Nat → Nat) (o_t : Ob) (h_p1 : Nat) (a_p1 : Nat → Nat) (o_p1 : Ob) (a_p1_wares : Nat → Nat) (o_p1_wares : Ob) (a_p1_shelf : Nat → Nat) (o_p1_shelf : Ob) (a_p1_log : Nat → Nat) (o_p1_log : Ob) (a_p1_b0 : Nat → Nat) (o_p1_b0 : Ob) (a_p1_b1 : Nat → Nat) (o_p1_b1 : Ob) (a_p1_b2 : Nat → Nat) (o_p1_b2 : Ob) (pl : va_W) (P : PV)  (o_t' : Ob) (o_p1' : Ob) (o_p1_wares' : Ob) (o_p1_shelf' : Ob) (o_p1_log' : Ob) (o_p1_b0' : Ob) (o_p1_b1' : Ob) (o_p1_b2' : Ob) (rv : Int32) (hpl : Pool cA (a_t 0) 8 P pl) (hF : f_X3_takeBack o_t o_p1 o_p1_wares o_p1_shelf o_p1_log o_p1_b0 o_p1_b1 o_p1_b2 P = some (o_t', o_p1', o_p1_wares', o_p1_shelf', o_p1_log', o_p1_b0', o_p1_b1', o_p1_b2', rv)) : Met l yX3_takeBack wsX3_takeBack ({ frames := 3, cells := 0, slots := 0, locals := 91 }) (va_Pc [.ref h_t, .ref h_p1] (PreN D cA g sz ((w_X3_keep cA h_t a_t o_t h_p1 a_p1 o_p1 a_p1_wares o_p1_wares a_p1_shelf o_p1_shelf a_p1_log o_p1_log a_p1_b0 o_p1_b0 a_p1_b1 o_p1_b1 a_p1_b2 o_p1_b2) ++ pl))) (va_Qi (fun (r : Int32) (_ : va_W) => r = rv) (PostT D cA sz ((w_X3_keep cA h_t a_t o_t h_p1 a_p1 o_p1 a_p1_wares o_p1_wares a_p1_shelf o_p1_shelf a_p1_log o_p1_log a_p1_b0 o_p1_b0 a_p1_b1 o_p1_b1 a_p1_b2 o_p1_b2) ++ pl) (w_X3_keep cA h_t a_t o_t' h_p1 a_p1 o_p1' a_p1_wares o_p1_wares' a_p1_shelf o_p1_shelf' a_p1_log o_p1_log' a_p1_b0 o_p1_b0' a_p1_b1 o_p1_b1' a_p1_b2 o_p1_b2') (Pool cA (a_t 0) 8 P)) (va_A ((w_X3_keep cA h_t a_t o_t h_p1 a_p1 o_p1 a_p1_wares o_p1_wares a_p1_shelf o_p1_shelf a_p1_log o_p1_log a_p1_b0 o_p1_b0 a_p1_b1 o_p1_b1 a_p1_b2 o_p1_b2) ++ pl) sz)) 0 0 (va_A ((w_X3_keep cA h_t a_t o_t h_p1 a_p1 o_p1 a_p1_wares o_p1_wares a_p1_shelf o_p1_shelf a_p1_log o_p1_log a_p1_b0 o_p1_b0 a_p1_b1 o_p1_b1 a_p1_b2 o_p1_b2) ++ pl) sz) := by
  refine z_startN (y := yX3_takeBack) (wsy := wsX3_takeBack) (av := [.ref h_t, .ref h_p1]) (w0 := ((w_X3_keep cA h_t a_t o_t h_p1 a_p1 o_p1 a_p1_wares o_p1_wares a_p1_shelf o_p1_shelf a_p1_log o_p1_log a_p1_b0 o_p1_b0 a_p1_b1 o_p1_b1 a_p1_b2 o_p1_b2) ++ pl)) (cc := cX3_takeBack) (maxL := 3) (ret := (some .boolean)) (lv0 := [(0, .ref h_t), (1, .ref h_p1)]) (Qc := fun sz => va_Qi (fun (r : Int32) (_ : va_W) => r = rv) (PostT D cA sz ((w_X3_keep cA h_t a_t o_t h_p1 a_p1 o_p1 a_p1_wares o_p1_wares a_p1_shelf o_p1_shelf a_p1_log o_p1_log a_p1_b0 o_p1_b0 a_p1_b1 o_p1_b1 a_p1_b2 o_p1_b2) ++ pl) (w_X3_keep cA h_t a_t o_t' h_p1 a_p1 o_p1' a_p1_wares o_p1_wares' a_p1_shelf o_p1_shelf' a_p1_log o_p1_log' a_p1_b0 o_p1_b0' a_p1_b1 o_p1_b1' a_p1_b2 o_p1_b2') (Pool cA (a_t 0) 8 P)) (va_A ((w_X3_keep cA h_t a_t o_t h_p1 a_p1 o_p1 a_p1_wares o_p1_wares a_p1_shelf o_p1_shelf a_p1_log o_p1_log a_p1_b0 o_p1_b0 a_p1_b1 o_p1_b1 a_p1_b2 o_p1_b2) ++ pl) sz)) (free := fun sz => va_A ((w_X3_keep cA h_t a_t o_t h_p1 a_p1 o_p1 a_p1_wares o_p1_wares a_p1_shelf o_p1_shelf a_p1_log o_p1_log a_p1_b0 o_p1_b0 a_p1_b1 o_p1_b1 a_p1_b2 o_p1_b2) ++ pl) sz) (by decide) rfl rfl (Nat.le_of_ble_eq_true rfl) ?_
  intro p e R s m args below meth c A Q hR hA hQ X Y hr hin
  unfold f_X3_takeBack at hF
  refine z_aload_n X dX3_takeBack_0 rfl 0 rfl ?_
  refine z_get (v := .int (o_t 2 0)) X k_X3_takeBack_21 0 rfl rfl dX3_takeBack_1 ?_
  refine z_iconst (v := (1 : Int32)) X dX3_takeBack_4 (by decide) ?_
  have hF := if_e hF
  refine z_icmp_ge (tgt := 12) X dX3_takeBack_5 (by decide) (fun c13 => ?_) (fun c13 => ?_)
  · have hF := hF.1 c13
    refine z_aload_n X dX3_takeBack_12 rfl 0 rfl ?_
    refine z_get (v := .ref (a_t 0)) X k_X3_takeBack_11 0 rfl rfl dX3_takeBack_13 ?_
    refine z_aload_n X dX3_takeBack_16 rfl 0 rfl ?_
    refine z_aload_n X dX3_takeBack_17 rfl 0 rfl ?_
    refine z_get (v := .int (o_t 2 0)) X k_X3_takeBack_21 0 rfl rfl dX3_takeBack_18 ?_
    refine z_iconst (v := (1 : Int32)) X dX3_takeBack_21 (by decide) ?_
    refine z_isub X dX3_takeBack_22 ?_
    obtain ⟨r1, hc2, hF⟩ := zb1_e hF
    refine z_ViT (As := [.int ((o_t 2 0) - (1 : Int32))]) (rest := [.ref (a_t 0)]) (wc := (w_X3_place cA h_t a_t o_t)) (wc' := (w_X3_place cA h_t a_t o_t)) (X1 := (w_X3_keep cA h_t a_t o_t h_p1 a_p1 o_p1 a_p1_wares o_p1_wares a_p1_shelf o_p1_shelf a_p1_log o_p1_log a_p1_b0 o_p1_b0 a_p1_b1 o_p1_b1 a_p1_b2 o_p1_b2)) (rv := r1) X (cwV 1 X.2.2.2.2.1 gX3_takeBack_X3_place rfl rfl rfl (by decide +kernel) (by rw [hR]; exact ⟨Nat.le_of_ble_eq_true rfl, Nat.le_of_ble_eq_true rfl⟩)) (fun sz => c_X3_place l D cA g sz h_t a_t o_t ((o_t 2 0) - (1 : Int32)) r1 hc2) [0] [1000, 1, 2, 3, 4, 5, 6, 7, 8, 9, 10, 11, 12, 13, 14, 15, 16, 17, 18, 19, 20, 21, 22, 23, 24, 25, 26, 27, 28] rfl (by decide) rfl (by decide) rfl rfl rfl rfl rfl rfl (Nat.le_of_ble_eq_true rfl) dX3_takeBack_23 (by rw [hR]; exact ⟨Nat.le_of_ble_eq_true rfl, Nat.le_of_ble_eq_true rfl⟩) ?_
    obtain ⟨g3, hF⟩ := gi_e hF
    have hlt : (Int32.toNatClampNeg r1) < 8 := Nat.not_le.mp fun h => g3 (Or.inr h)
    cases hPa : P (Int32.toNatClampNeg r1) with
    | none =>
      obtain ⟨hs, pl0, hn, hp, -, hself⟩ := hpl.none hlt hPa
      have hF := zp_e0 hPa hF
      refine z_perm (hp.append_left _) ?_
      refine z_aldS (r := none) X 29 rfl g3 hn dX3_takeBack_26 ?_
      refine z_astoreN (lv' := [(2, .null), (0, .ref h_t), (1, .ref h_p1)]) X dX3_takeBack_27 rfl (by decide) rfl ?_
      refine z_aloadN X dX3_takeBack_28 rfl 0 rfl ?_
      refine z_ifnn0 X dX3_takeBack_29 ?_
      refine z_iconst (v := (0 : Int32)) X dX3_takeBack_32 (by decide) ?_
      cases hF
      exact z_zretT X hA hQ hr hself (Or.inl rfl)  rfl dX3_takeBack_33 (Nat.le_of_ble_eq_true rfl) (Nat.le_of_ble_eq_true rfl)
    | some VV =>
      obtain ⟨hs, qn, u, pl0, hn, hp, -, hself⟩ := hpl.some hlt hPa
      have hF := zp_e1 hPa hF
      refine z_perm (hp.append_left _) ?_
      refine z_aldS (r := some qn) X 29 rfl g3 hn dX3_takeBack_26 ?_
      refine z_astore_n (lv' := [(2, .ref qn), (0, .ref h_t), (1, .ref h_p1)]) X dX3_takeBack_27 rfl (by decide) rfl ?_
      refine z_aload_n X dX3_takeBack_28 rfl 0 rfl ?_
      refine z_ifnn1 (tgt := 34) X dX3_takeBack_29 (by decide) ?_
      refine z_aload_n X dX3_takeBack_34 rfl 1 rfl ?_
      refine z_dup X dX3_takeBack_35 rfl ?_
      refine z_get (v := .int (o_t 2 0)) X k_X3_takeBack_21 0 rfl rfl dX3_takeBack_36 ?_
      refine z_iconst (v := (1 : Int32)) X dX3_takeBack_39 (by decide) ?_
      refine z_isub X dX3_takeBack_40 ?_
      obtain ⟨o4, eo4, hF⟩ := nx_e hF
      refine z_put (ws' := ((w_X3_keep cA h_t a_t o4 h_p1 a_p1 o_p1 a_p1_wares o_p1_wares a_p1_shelf o_p1_shelf a_p1_log o_p1_log a_p1_b0 o_p1_b0 a_p1_b1 o_p1_b1 a_p1_b2 o_p1_b2) ++ (kc cA (a_t 0) 8 hs :: (wSt cA qn u VV ++ pl0)))) X k_X3_takeBack_21 tyX3 tyX3_ok nmX3 rfl rfl 0 rfl (Nat.le_of_ble_eq_true rfl) (by rw [eo4]; rfl) dX3_takeBack_41 ?_
      refine z_aload_n X dX3_takeBack_44 rfl 2 rfl ?_
      refine z_aload_n X dX3_takeBack_45 rfl 0 rfl ?_
      obtain ⟨o5, o6, o7, o8, o9, o10, o11, hc12, hF⟩ := zb7_e hF
      refine z_ws (ws' := (((w_X3_keep cA h_t a_t o4 h_p1 a_p1 o_p1 a_p1_wares o_p1_wares a_p1_shelf o_p1_shelf a_p1_log o_p1_log a_p1_b0 o_p1_b0 a_p1_b1 o_p1_b1 a_p1_b2 o_p1_b2) ++ (kc cA (a_t 0) 8 hs :: wSt cA qn u VV)) ++ pl0)) rfl ?_
      refine z_VvT (As := [.ref qn]) (rest := []) (wc := (w_X9_copyFrom cA h_p1 a_p1 o_p1 a_p1_wares o_p1_wares a_p1_shelf o_p1_shelf a_p1_log o_p1_log a_p1_b0 o_p1_b0 a_p1_b1 o_p1_b1 a_p1_b2 o_p1_b2 qn (u 0) (VV 0) (u 1) (VV 1) (u 2) (VV 2) (u 3) (VV 3) (u 4) (VV 4) (u 5) (VV 5) (u 6) (VV 6))) (wc' := (w_X9_copyFrom cA h_p1 a_p1 o5 a_p1_wares o6 a_p1_shelf o7 a_p1_log o8 a_p1_b0 o9 a_p1_b1 o10 a_p1_b2 o11 qn (u 0) (VV 0) (u 1) (VV 1) (u 2) (VV 2) (u 3) (VV 3) (u 4) (VV 4) (u 5) (VV 5) (u 6) (VV 6))) (X0 := ((w_X3_keep cA h_t a_t o4 h_p1 a_p1 o_p1 a_p1_wares o_p1_wares a_p1_shelf o_p1_shelf a_p1_log o_p1_log a_p1_b0 o_p1_b0 a_p1_b1 o_p1_b1 a_p1_b2 o_p1_b2) ++ (kc cA (a_t 0) 8 hs :: wSt cA qn u VV))) (X1 := ((w_X3_keep cA h_t a_t o4 h_p1 a_p1 o5 a_p1_wares o6 a_p1_shelf o7 a_p1_log o8 a_p1_b0 o9 a_p1_b1 o10 a_p1_b2 o11) ++ (kc cA (a_t 0) 8 hs :: wSt cA qn u VV))) (pl := pl0) X (cwV 1 X.2.2.2.2.1 gX3_takeBack_X9_copyFrom rfl rfl rfl (by decide +kernel) (by rw [hR]; exact ⟨Nat.le_of_ble_eq_true rfl, Nat.le_of_ble_eq_true rfl⟩)) (fun sz => c_X9_copyFrom l D cA g sz h_p1 a_p1 o_p1 a_p1_wares o_p1_wares a_p1_shelf o_p1_shelf a_p1_log o_p1_log a_p1_b0 o_p1_b0 a_p1_b1 o_p1_b1 a_p1_b2 o_p1_b2 qn (u 0) (VV 0) (u 1) (VV 1) (u 2) (VV 2) (u 3) (VV 3) (u 4) (VV 4) (u 5) (VV 5) (u 6) (VV 6) o5 o6 o7 o8 o9 o10 o11 hc12) [1, 2, 3, 4, 5, 6, 7, 8, 9, 10, 11, 12, 13, 14, 15, 16, 17, 18, 19, 20, 21, 22, 23, 24, 25, 26, 27, 28, 30, 31, 32, 33, 34, 35, 36, 37, 38, 39, 40, 41, 42, 43, 44, 45, 46, 47, 48, 49, 50, 51, 52, 53, 54, 55, 56, 57] [0, 1000, 1001, 1002, 1003, 1004, 1005, 1006, 1007, 1008, 1009, 1010, 1011, 1012, 1013, 1014, 1015, 1016, 1017, 1018, 1019, 1020, 1021, 1022, 1023, 1024, 1025, 1026, 1027, 29, 1028, 1029, 1030, 1031, 1032, 1033, 1034, 1035, 1036, 1037, 1038, 1039, 1040, 1041, 1042, 1043, 1044, 1045, 1046, 1047, 1048, 1049, 1050, 1051, 1052, 1053, 1054, 1055] rfl (by decide) rfl (by decide) rfl rfl rfl rfl rfl rfl (Nat.le_of_ble_eq_true rfl) dX3_takeBack_46 (by rw [hR]; exact ⟨Nat.le_of_ble_eq_true rfl, Nat.le_of_ble_eq_true rfl⟩) ?_
      refine z_ws (ws' := ((w_X3_keep cA h_t a_t o4 h_p1 a_p1 o5 a_p1_wares o6 a_p1_shelf o7 a_p1_log o8 a_p1_b0 o9 a_p1_b1 o10 a_p1_b2 o11) ++ (kc cA (a_t 0) 8 hs :: (wSt cA qn u VV ++ pl0)))) rfl ?_
      refine z_iconst (v := (1 : Int32)) X dX3_takeBack_49 (by decide) ?_
      cases hF
      exact z_zretT X hA hQ hr hself (Or.inr rfl)  rfl dX3_takeBack_50 (Nat.le_of_ble_eq_true rfl) (Nat.le_of_ble_eq_true rfl)
  · have hF := hF.2 c13
    refine z_null X dX3_takeBack_8 ?_
    refine z_goto (tgt := 27) X dX3_takeBack_9 (by decide) ?_
    refine z_astoreN (lv' := [(2, .null), (0, .ref h_t), (1, .ref h_p1)]) X dX3_takeBack_27 rfl (by decide) rfl ?_
    refine z_aloadN X dX3_takeBack_28 rfl 0 rfl ?_
    refine z_ifnn0 X dX3_takeBack_29 ?_
    refine z_iconst (v := (0 : Int32)) X dX3_takeBack_32 (by decide) ?_
    cases hF
    exact z_zretT X hA hQ hr hpl (Or.inl rfl)  rfl dX3_takeBack_33 (Nat.le_of_ble_eq_true rfl) (Nat.le_of_ble_eq_true rfl)
abbrev w_X11_startAnew (cA : Nat → ClassId) (h_t : Nat) (a_t : Nat → Nat) (o_t : Ob) (a_t_state : Nat → Nat) (o_t_state : Ob) (a_t_state_wares : Nat → Nat) (o_t_state_wares : Ob) (a_t_state_shelf : Nat → Nat) (o_t_state_shelf : Ob) (a_t_state_log : Nat → Nat) (o_t_state_log : Ob) (a_t_state_b0 : Nat → Nat) (o_t_state_b0 : Ob) (a_t_state_b1 : Nat → Nat) (o_t_state_b1 : Ob) (a_t_state_b2 : Nat → Nat) (o_t_state_b2 : Ob) (a_t_history : Nat → Nat) (o_t_history : Ob) (a_t_planner : Nat → Nat) (o_t_planner : Ob) : va_W := [(h_t, .inr (11, [.ref (a_t 0), .ref (a_t 1), .ref (a_t 2), .ref (a_t 3), .ref (a_t 4), .ref (a_t 5), .ref (a_t 6), .ref (a_t 7), .ref (a_t 8), .ref (a_t 9), .ref (a_t 10), .ref (a_t 11), .ref (a_t 12), .int (o_t 13 0), .int (o_t 14 0)])), (a_t 12, .inl (cA 0, 20, .inl (o_t 12))), ((a_t 2), .inr (9, [.ref (a_t_state 0), .ref (a_t_state 1), .ref (a_t_state 2), .ref (a_t_state 3), .int (o_t_state 4 0), .int (o_t_state 5 0), .int (o_t_state 6 0)])), (a_t_state 3, .inl (cA 4, 3, .inr (.inr (.inr (.inr (bk (a_t_state 20) (a_t_state 21) (a_t_state 22))))))), ((a_t_state 0), .inr (10, [.int (o_t_state_wares 0 0), .ref (a_t_state_wares 1), .ref (a_t_state_wares 2), .ref (a_t_state_wares 3), .ref (a_t_state_wares 4)])), (a_t_state_wares 1, .inl (cA 0, 8, .inl (o_t_state_wares 1))), (a_t_state_wares 2, .inl (cA 0, 8, .inl (o_t_state_wares 2))), (a_t_state_wares 3, .inl (cA 0, 8, .inl (o_t_state_wares 3))), (a_t_state_wares 4, .inl (cA 0, 8, .inl (o_t_state_wares 4))), ((a_t_state 1), .inr (8, [.int (o_t_state_shelf 0 0), .int (o_t_state_shelf 1 0), .int (o_t_state_shelf 2 0), .int (o_t_state_shelf 3 0), .ref (a_t_state_shelf 4), .ref (a_t_state_shelf 5), .ref (a_t_state_shelf 6)])), (a_t_state_shelf 4, .inl (cA 0, 8, .inl (o_t_state_shelf 4))), (a_t_state_shelf 5, .inl (cA 0, 8, .inl (o_t_state_shelf 5))), (a_t_state_shelf 6, .inl (cA 1, 8, .inr (.inr (.inl (fun j => (o_t_state_shelf 6 j).toUInt32))))), ((a_t_state 2), .inr (4, [.int (o_t_state_log 0 0), .ref (a_t_state_log 1), .ref (a_t_state_log 2), .ref (a_t_state_log 3), .ref (a_t_state_log 4)])), (a_t_state_log 1, .inl (cA 0, 40, .inl (o_t_state_log 1))), (a_t_state_log 2, .inl (cA 0, 40, .inl (o_t_state_log 2))), (a_t_state_log 3, .inl (cA 0, 40, .inl (o_t_state_log 3))), (a_t_state_log 4, .inl (cA 0, 320, .inl (o_t_state_log 4))), ((a_t_state 20), .inr (0, [.int (o_t_state_b0 0 0), .int (o_t_state_b0 1 0), .int (o_t_state_b0 2 0), .int (o_t_state_b0 3 0), .int (o_t_state_b0 4 0), .int (o_t_state_b0 5 0), .int (o_t_state_b0 6 0), .ref (a_t_state_b0 7), .ref (a_t_state_b0 8), .ref (a_t_state_b0 9)])), (a_t_state_b0 7, .inl (cA 0, 30, .inl (o_t_state_b0 7))), (a_t_state_b0 8, .inl (cA 0, 30, .inl (o_t_state_b0 8))), (a_t_state_b0 9, .inl (cA 0, 30, .inl (o_t_state_b0 9))), ((a_t_state 21), .inr (0, [.int (o_t_state_b1 0 0), .int (o_t_state_b1 1 0), .int (o_t_state_b1 2 0), .int (o_t_state_b1 3 0), .int (o_t_state_b1 4 0), .int (o_t_state_b1 5 0), .int (o_t_state_b1 6 0), .ref (a_t_state_b1 7), .ref (a_t_state_b1 8), .ref (a_t_state_b1 9)])), (a_t_state_b1 7, .inl (cA 0, 30, .inl (o_t_state_b1 7))), (a_t_state_b1 8, .inl (cA 0, 30, .inl (o_t_state_b1 8))), (a_t_state_b1 9, .inl (cA 0, 30, .inl (o_t_state_b1 9))), ((a_t_state 22), .inr (0, [.int (o_t_state_b2 0 0), .int (o_t_state_b2 1 0), .int (o_t_state_b2 2 0), .int (o_t_state_b2 3 0), .int (o_t_state_b2 4 0), .int (o_t_state_b2 5 0), .int (o_t_state_b2 6 0), .ref (a_t_state_b2 7), .ref (a_t_state_b2 8), .ref (a_t_state_b2 9)])), (a_t_state_b2 7, .inl (cA 0, 30, .inl (o_t_state_b2 7))), (a_t_state_b2 8, .inl (cA 0, 30, .inl (o_t_state_b2 8))), (a_t_state_b2 9, .inl (cA 0, 30, .inl (o_t_state_b2 9))), ((a_t 3), .inr (3, [.ref (a_t_history 0), .int (o_t_history 1 0), .int (o_t_history 2 0)])), ((a_t 8), .inr (5, [.int (o_t_planner 0 0), .ref (a_t_planner 1), .ref (a_t_planner 2), .ref (a_t_planner 3), .ref (a_t_planner 4), .int (o_t_planner 5 0), .int (o_t_planner 6 0), .int (o_t_planner 7 0), .int (o_t_planner 8 0), .ref (a_t_planner 9)])), (a_t_planner 1, .inl (cA 0, 10496, .inl (o_t_planner 1))), (a_t_planner 2, .inl (cA 0, 256, .inl (o_t_planner 2))), (a_t_planner 3, .inl (cA 0, 256, .inl (o_t_planner 3))), (a_t_planner 4, .inl (cA 0, 256, .inl (o_t_planner 4))), (a_t_planner 9, .inl (cA 0, 40, .inl (o_t_planner 9)))]
def f_X11_startAnew (o_t_state : Ob) (o_t_state_wares : Ob) (o_t_state_shelf : Ob) (o_t_state_log : Ob) (o_t_state_b0 : Ob) (o_t_state_b1 : Ob) (o_t_state_b2 : Ob) (o_t_history : Ob) (o_t_planner : Ob) (P : PV) (v1 : Int32) (v2 : Int32) : Option (Ob × Ob × Ob × Ob × PV × Int32) :=
  zb2 (f_X3_keep o_t_history o_t_state o_t_state_wares o_t_state_shelf o_t_state_log o_t_state_b0 o_t_state_b1 o_t_state_b2 P) fun (o1 : Ob) (P2 : PV) =>
  zb1 (f_X5_forget o_t_planner) fun (o6 : Ob) =>
  zb1 (f_J6_bitCount_0f7a4 (o_t_state_shelf 2 0)) fun (r8 : Int32) =>
  zb1 (f_X8_begin o_t_state_shelf v1 v2) fun (o10 : Ob) =>
  nx (si o_t_state_log 0 (0 : Int32)) fun o12 =>
  some (o10, o12, o1, o6, P2, r8)
set_option maxRecDepth 20000 in
theorem h_X11_startAnew_X11 : ∀ w ∈ wsX110, w ∈ wsX11_startAnew := by decide +kernel
set_option maxRecDepth 20000 in
theorem k_X11_startAnew_26 : ZF wsX11_startAnew RX11 26 11 2 RX11 TX11 15 := ⟨rfl, by decide, h_X11_startAnew_X11, by decide +kernel⟩
set_option maxRecDepth 20000 in
theorem k_X11_startAnew_33 : ZF wsX11_startAnew RX11 33 11 3 RX11 TX11 15 := ⟨rfl, by decide, h_X11_startAnew_X11, by decide +kernel⟩
set_option maxRecDepth 20000 in
theorem k_X11_startAnew_67 : ZF wsX11_startAnew RX11 67 11 8 RX11 TX11 15 := ⟨rfl, by decide, h_X11_startAnew_X11, by decide +kernel⟩
set_option maxRecDepth 20000 in
theorem h_X11_startAnew_X9 : ∀ w ∈ wsX90, w ∈ wsX11_startAnew := by decide +kernel
set_option maxRecDepth 20000 in
theorem k_X11_startAnew_143 : ZF wsX11_startAnew RX11 143 9 2 RX9 TX9 7 := ⟨rfl, by decide, h_X11_startAnew_X9, by decide +kernel⟩
set_option maxRecDepth 20000 in
theorem k_X11_startAnew_160 : ZF wsX11_startAnew RX11 160 9 1 RX9 TX9 7 := ⟨rfl, by decide, h_X11_startAnew_X9, by decide +kernel⟩
set_option maxRecDepth 20000 in
theorem h_X11_startAnew_X8 : ∀ w ∈ wsX80, w ∈ wsX11_startAnew := by decide +kernel
set_option maxRecDepth 20000 in
theorem k_X11_startAnew_165 : ZF wsX11_startAnew RX11 165 8 2 RX8 TX8 7 := ⟨rfl, by decide, h_X11_startAnew_X8, by decide +kernel⟩
set_option maxRecDepth 20000 in
theorem h_X11_startAnew_X4 : ∀ w ∈ wsX40, w ∈ wsX11_startAnew := by decide +kernel
set_option maxRecDepth 20000 in
theorem k_X11_startAnew_175 : ZF wsX11_startAnew RX11 175 4 0 RX4 TX4 5 := ⟨rfl, by decide, h_X11_startAnew_X4, by decide +kernel⟩
set_option maxHeartbeats 8000000 in
set_option maxRecDepth 100000 in
theorem c_X11_startAnew (l : Launch) (D : va_G) (cA : Nat → ClassId) (g : Nat → Nat) (sz : Nat) (h_t : Nat) (a_t : Nat → Nat) (o_t : Ob) (a_t_state : Nat → Nat) (o_t_state : Ob) (a_t_state_wares : Nat → Nat) (o_t_state_wares : Ob) (a_t_state_shelf : Nat → Nat) (o_t_state_shelf : Ob) (a_t_state_log : Nat → Nat) (o_t_state_log : Ob) (a_t_state_b0 : Nat → Nat) (o_t_state_b0 : Ob) (a_t_state_b1 : Nat → Nat) (o_t_state_b1 : Ob) (a_t_state_b2 : Nat → Nat) (o_t_state_b2 : Ob) (a_t_history : Nat → Nat) (o_t_history : Ob) (a_t_planner : Nat → Nat) (o_t_planner : Ob) (pl : va_W) (P : PV) (v1 : Int32) (v2 : Int32) (o_t_state_shelf' : Ob) (o_t_state_log' : Ob) (o_t_history' : Ob) (o_t_planner' : Ob) (P' : PV) (rv : Int32) (hpl : Pool cA (a_t_history 0) 8 P pl) (hF : f_X11_startAnew o_t_state o_t_state_wares o_t_state_shelf o_t_state_log o_t_state_b0 o_t_state_b1 o_t_state_b2 o_t_history o_t_planner P v1 v2 = some (o_t_state_shelf', o_t_state_log', o_t_history', o_t_planner', P', rv)) : Met l yX11_startAnew wsX11_startAnew ({ frames := 4, cells := 28, slots := 823, locals := 113 }) (va_Pc [.ref h_t, .int v1, .int v2] (PreN D cA g sz ((w_X11_startAnew cA h_t a_t o_t a_t_state o_t_state a_t_state_wares o_t_state_wares a_t_state_shelf o_t_state_shelf a_t_state_log o_t_state_log a_t_state_b0 o_t_state_b0 a_t_state_b1 o_t_state_b1 a_t_state_b2 o_t_state_b2 a_t_history o_t_history a_t_planner o_t_planner) ++ pl))) (va_Qi (fun (r : Int32) (_ : va_W) => r = rv) (PostT D cA sz ((w_X11_startAnew cA h_t a_t o_t a_t_state o_t_state a_t_state_wares o_t_state_wares a_t_state_shelf o_t_state_shelf a_t_state_log o_t_state_log a_t_state_b0 o_t_state_b0 a_t_state_b1 o_t_state_b1 a_t_state_b2 o_t_state_b2 a_t_history o_t_history a_t_planner o_t_planner) ++ pl) (w_X11_startAnew cA h_t a_t o_t a_t_state o_t_state a_t_state_wares o_t_state_wares a_t_state_shelf o_t_state_shelf' a_t_state_log o_t_state_log' a_t_state_b0 o_t_state_b0 a_t_state_b1 o_t_state_b1 a_t_state_b2 o_t_state_b2 a_t_history o_t_history' a_t_planner o_t_planner') (Pool cA (a_t_history 0) 8 P')) (va_A ((w_X11_startAnew cA h_t a_t o_t a_t_state o_t_state a_t_state_wares o_t_state_wares a_t_state_shelf o_t_state_shelf a_t_state_log o_t_state_log a_t_state_b0 o_t_state_b0 a_t_state_b1 o_t_state_b1 a_t_state_b2 o_t_state_b2 a_t_history o_t_history a_t_planner o_t_planner) ++ pl) sz)) 28 823 (va_A ((w_X11_startAnew cA h_t a_t o_t a_t_state o_t_state a_t_state_wares o_t_state_wares a_t_state_shelf o_t_state_shelf a_t_state_log o_t_state_log a_t_state_b0 o_t_state_b0 a_t_state_b1 o_t_state_b1 a_t_state_b2 o_t_state_b2 a_t_history o_t_history a_t_planner o_t_planner) ++ pl) sz) := by
  refine z_startN (y := yX11_startAnew) (wsy := wsX11_startAnew) (av := [.ref h_t, .int v1, .int v2]) (w0 := ((w_X11_startAnew cA h_t a_t o_t a_t_state o_t_state a_t_state_wares o_t_state_wares a_t_state_shelf o_t_state_shelf a_t_state_log o_t_state_log a_t_state_b0 o_t_state_b0 a_t_state_b1 o_t_state_b1 a_t_state_b2 o_t_state_b2 a_t_history o_t_history a_t_planner o_t_planner) ++ pl)) (cc := cX11_startAnew) (maxL := 4) (ret := (some .int)) (lv0 := [(0, .ref h_t), (1, .int v1), (2, .int v2)]) (Qc := fun sz => va_Qi (fun (r : Int32) (_ : va_W) => r = rv) (PostT D cA sz ((w_X11_startAnew cA h_t a_t o_t a_t_state o_t_state a_t_state_wares o_t_state_wares a_t_state_shelf o_t_state_shelf a_t_state_log o_t_state_log a_t_state_b0 o_t_state_b0 a_t_state_b1 o_t_state_b1 a_t_state_b2 o_t_state_b2 a_t_history o_t_history a_t_planner o_t_planner) ++ pl) (w_X11_startAnew cA h_t a_t o_t a_t_state o_t_state a_t_state_wares o_t_state_wares a_t_state_shelf o_t_state_shelf' a_t_state_log o_t_state_log' a_t_state_b0 o_t_state_b0 a_t_state_b1 o_t_state_b1 a_t_state_b2 o_t_state_b2 a_t_history o_t_history' a_t_planner o_t_planner') (Pool cA (a_t_history 0) 8 P')) (va_A ((w_X11_startAnew cA h_t a_t o_t a_t_state o_t_state a_t_state_wares o_t_state_wares a_t_state_shelf o_t_state_shelf a_t_state_log o_t_state_log a_t_state_b0 o_t_state_b0 a_t_state_b1 o_t_state_b1 a_t_state_b2 o_t_state_b2 a_t_history o_t_history a_t_planner o_t_planner) ++ pl) sz)) (free := fun sz => va_A ((w_X11_startAnew cA h_t a_t o_t a_t_state o_t_state a_t_state_wares o_t_state_wares a_t_state_shelf o_t_state_shelf a_t_state_log o_t_state_log a_t_state_b0 o_t_state_b0 a_t_state_b1 o_t_state_b1 a_t_state_b2 o_t_state_b2 a_t_history o_t_history a_t_planner o_t_planner) ++ pl) sz) (by decide) rfl rfl (Nat.le_of_ble_eq_true rfl) ?_
  intro p e R s m args below meth c A Q hR hA hQ X Y hr hin
  unfold f_X11_startAnew at hF
  refine z_aload_n X dX11_startAnew_0 rfl 0 rfl ?_
  refine z_get (v := .ref (a_t 3)) X k_X11_startAnew_33 0 rfl rfl dX11_startAnew_1 ?_
  refine z_aload_n X dX11_startAnew_4 rfl 0 rfl ?_
  refine z_get (v := .ref (a_t 2)) X k_X11_startAnew_26 0 rfl rfl dX11_startAnew_5 ?_
  obtain ⟨o1, P2, hc3, hF⟩ := zb2_e hF
  refine z_Pv (As := [.ref (a_t 2)]) (rest := []) (wc := (w_X3_keep cA (a_t 3) a_t_history o_t_history (a_t 2) a_t_state o_t_state a_t_state_wares o_t_state_wares a_t_state_shelf o_t_state_shelf a_t_state_log o_t_state_log a_t_state_b0 o_t_state_b0 a_t_state_b1 o_t_state_b1 a_t_state_b2 o_t_state_b2)) (wc' := (w_X3_keep cA (a_t 3) a_t_history o1 (a_t 2) a_t_state o_t_state a_t_state_wares o_t_state_wares a_t_state_shelf o_t_state_shelf a_t_state_log o_t_state_log a_t_state_b0 o_t_state_b0 a_t_state_b1 o_t_state_b1 a_t_state_b2 o_t_state_b2)) (X1 := (w_X11_startAnew cA h_t a_t o_t a_t_state o_t_state a_t_state_wares o_t_state_wares a_t_state_shelf o_t_state_shelf a_t_state_log o_t_state_log a_t_state_b0 o_t_state_b0 a_t_state_b1 o_t_state_b1 a_t_state_b2 o_t_state_b2 a_t_history o1 a_t_planner o_t_planner)) (pl := pl) (Pl := Pool cA (a_t_history 0) 8 P2) X Y (cwV 1 X.2.2.2.2.1 gX11_startAnew_X3_keep rfl rfl rfl (by decide +kernel) (by rw [hR]; exact ⟨Nat.le_of_ble_eq_true rfl, Nat.le_of_ble_eq_true rfl⟩)) (fun sz => c_X3_keep l D cA g sz (a_t 3) a_t_history o_t_history (a_t 2) a_t_state o_t_state a_t_state_wares o_t_state_wares a_t_state_shelf o_t_state_shelf a_t_state_log o_t_state_log a_t_state_b0 o_t_state_b0 a_t_state_b1 o_t_state_b1 a_t_state_b2 o_t_state_b2 pl P  o1 P2 hpl hc3) [30, 2, 3, 4, 5, 6, 7, 8, 9, 10, 11, 12, 13, 14, 15, 16, 17, 18, 19, 20, 21, 22, 23, 24, 25, 26, 27, 28, 29] [0, 1, 1001, 1002, 1003, 1004, 1005, 1006, 1007, 1008, 1009, 1010, 1011, 1012, 1013, 1014, 1015, 1016, 1017, 1018, 1019, 1020, 1021, 1022, 1023, 1024, 1025, 1026, 1027, 1028, 1000, 31, 32, 33, 34, 35, 36] rfl (by decide) rfl (by decide) rfl rfl rfl rfl rfl rfl (Nat.le_of_ble_eq_true rfl) dX11_startAnew_8 (by rw [hR]; exact ⟨Nat.le_of_ble_eq_true rfl, Nat.le_of_ble_eq_true rfl⟩) (fun pl4 hp5 => ?_)
  refine z_aload_n X dX11_startAnew_11 rfl 0 rfl ?_
  refine z_get (v := .ref (a_t 8)) X k_X11_startAnew_67 0 rfl rfl dX11_startAnew_12 ?_
  obtain ⟨o6, hc7, hF⟩ := zb1_e hF
  refine z_VvT (As := []) (rest := []) (wc := (w_X5_forget cA (a_t 8) a_t_planner 10496 o_t_planner)) (wc' := (w_X5_forget cA (a_t 8) a_t_planner 10496 o6)) (X1 := (w_X11_startAnew cA h_t a_t o_t a_t_state o_t_state a_t_state_wares o_t_state_wares a_t_state_shelf o_t_state_shelf a_t_state_log o_t_state_log a_t_state_b0 o_t_state_b0 a_t_state_b1 o_t_state_b1 a_t_state_b2 o_t_state_b2 a_t_history o1 a_t_planner o6)) X (cwV 0 X.2.2.2.2.1 gX11_startAnew_X5_forget rfl rfl rfl (by decide +kernel) (by rw [hR]; exact ⟨Nat.le_of_ble_eq_true rfl, Nat.le_of_ble_eq_true rfl⟩)) (fun sz => c_X5_forget l D cA g sz (a_t 8) a_t_planner 10496 o_t_planner o6 hc7) [31, 32, 33, 34, 35, 36] [0, 1, 2, 3, 4, 5, 6, 7, 8, 9, 10, 11, 12, 13, 14, 15, 16, 17, 18, 19, 20, 21, 22, 23, 24, 25, 26, 27, 28, 29, 30, 1000, 1001, 1002, 1003, 1004, 1005] rfl (by decide) rfl (by decide) rfl rfl rfl rfl rfl rfl (Nat.le_of_ble_eq_true rfl) dX11_startAnew_15 (by rw [hR]; exact ⟨Nat.le_of_ble_eq_true rfl, Nat.le_of_ble_eq_true rfl⟩) ?_
  refine z_aload_n X dX11_startAnew_18 rfl 0 rfl ?_
  refine z_get (v := .ref (a_t 2)) X k_X11_startAnew_26 0 rfl rfl dX11_startAnew_19 ?_
  refine z_get (v := .ref (a_t_state 1)) X k_X11_startAnew_160 2 rfl rfl dX11_startAnew_22 ?_
  refine z_get (v := .int (o_t_state_shelf 2 0)) X k_X11_startAnew_165 9 rfl rfl dX11_startAnew_25 ?_
  obtain ⟨r8, hc9, hF⟩ := zb1_e hF
  refine z_SiT (As := [.int (o_t_state_shelf 2 0)]) (rest := []) (wc := ([] : va_W)) (wc' := ([] : va_W)) (X1 := (w_X11_startAnew cA h_t a_t o_t a_t_state o_t_state a_t_state_wares o_t_state_wares a_t_state_shelf o_t_state_shelf a_t_state_log o_t_state_log a_t_state_b0 o_t_state_b0 a_t_state_b1 o_t_state_b1 a_t_state_b2 o_t_state_b2 a_t_history o1 a_t_planner o6)) (rv := r8) X (va_cwS 1 X.2.2.2.2.1 gX11_startAnew_J6_bitCount_0f7a4 rfl rfl rfl (by decide +kernel) (by rw [hR]; exact ⟨Nat.le_of_ble_eq_true rfl, Nat.le_of_ble_eq_true rfl⟩)) (fun sz => c_J6_bitCount_0f7a4 l D cA g sz (o_t_state_shelf 2 0) r8 hc9) [] [0, 1, 2, 3, 4, 5, 6, 7, 8, 9, 10, 11, 12, 13, 14, 15, 16, 17, 18, 19, 20, 21, 22, 23, 24, 25, 26, 27, 28, 29, 30, 31, 32, 33, 34, 35, 36] rfl (by decide) rfl (by decide) rfl rfl rfl (Nat.le_of_ble_eq_true rfl) dX11_startAnew_28 (by rw [hR]; exact ⟨Nat.le_of_ble_eq_true rfl, Nat.le_of_ble_eq_true rfl⟩) ?_
  refine z_istore_n (lv' := [(3, .int r8), (0, .ref h_t), (1, .int v1), (2, .int v2)]) X dX11_startAnew_31 rfl (by decide) rfl ?_
  refine z_aload_n X dX11_startAnew_32 rfl 1 rfl ?_
  refine z_get (v := .ref (a_t 2)) X k_X11_startAnew_26 0 rfl rfl dX11_startAnew_33 ?_
  refine z_get (v := .ref (a_t_state 1)) X k_X11_startAnew_160 2 rfl rfl dX11_startAnew_36 ?_
  refine z_iload_n X dX11_startAnew_39 rfl 2 rfl ?_
  refine z_iload_n X dX11_startAnew_40 rfl 3 rfl ?_
  obtain ⟨o10, hc11, hF⟩ := zb1_e hF
  refine z_VvT (As := [.int v1, .int v2]) (rest := []) (wc := (w_X8_begin cA (a_t_state 1) a_t_state_shelf o_t_state_shelf)) (wc' := (w_X8_begin cA (a_t_state 1) a_t_state_shelf o10)) (X1 := (w_X11_startAnew cA h_t a_t o_t a_t_state o_t_state a_t_state_wares o_t_state_wares a_t_state_shelf o10 a_t_state_log o_t_state_log a_t_state_b0 o_t_state_b0 a_t_state_b1 o_t_state_b1 a_t_state_b2 o_t_state_b2 a_t_history o1 a_t_planner o6)) X (cwV 2 X.2.2.2.2.1 gX11_startAnew_X8_begin rfl rfl rfl (by decide +kernel) (by rw [hR]; exact ⟨Nat.le_of_ble_eq_true rfl, Nat.le_of_ble_eq_true rfl⟩)) (fun sz => c_X8_begin l D cA g sz (a_t_state 1) a_t_state_shelf o_t_state_shelf v1 v2 o10 hc11) [9, 10, 11, 12] [0, 1, 2, 3, 4, 5, 6, 7, 8, 1000, 1001, 1002, 1003, 13, 14, 15, 16, 17, 18, 19, 20, 21, 22, 23, 24, 25, 26, 27, 28, 29, 30, 31, 32, 33, 34, 35, 36] rfl (by decide) rfl (by decide) rfl rfl rfl rfl rfl rfl (Nat.le_of_ble_eq_true rfl) dX11_startAnew_41 (by rw [hR]; exact ⟨Nat.le_of_ble_eq_true rfl, Nat.le_of_ble_eq_true rfl⟩) ?_
  refine z_aload_n X dX11_startAnew_44 rfl 1 rfl ?_
  refine z_get (v := .ref (a_t 2)) X k_X11_startAnew_26 0 rfl rfl dX11_startAnew_45 ?_
  refine z_get (v := .ref (a_t_state 2)) X k_X11_startAnew_143 2 rfl rfl dX11_startAnew_48 ?_
  refine z_iconst (v := (0 : Int32)) X dX11_startAnew_51 (by decide) ?_
  obtain ⟨o12, eo12, hF⟩ := nx_e hF
  refine z_put (ws' := ((w_X11_startAnew cA h_t a_t o_t a_t_state o_t_state a_t_state_wares o_t_state_wares a_t_state_shelf o10 a_t_state_log o12 a_t_state_b0 o_t_state_b0 a_t_state_b1 o_t_state_b1 a_t_state_b2 o_t_state_b2 a_t_history o1 a_t_planner o6) ++ pl4)) X k_X11_startAnew_175 tyX4 tyX4_ok nmX4 rfl rfl 13 rfl (Nat.le_of_ble_eq_true rfl) (by rw [eo12]; rfl) dX11_startAnew_52 ?_
  refine z_iload_n X dX11_startAnew_55 rfl 0 rfl ?_
  cases hF
  exact z_iretT X hA hQ hr hp5 rfl dX11_startAnew_56 (Nat.le_of_ble_eq_true rfl) (Nat.le_of_ble_eq_true rfl)
