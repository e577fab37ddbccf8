set_option maxHeartbeats 4000000 in
set_option maxRecDepth 100000 in
theorem lc_book {p : Program} {l : Launch} {e : Env} {s : State} {m : MethodId} {args : Array Value} {below : List Frame} {meth : Method} {c : Code} {D : va_G} {cA : Nat → ClassId} {g : Nat → Nat} {A : Nat → Prop} {Q : State → Prop} (X : ZC p s m args meth c code 4 RL wsL_law D cA g A) (Y : ny s) {b L : Nat} {xs : Nat → Int32} (hX : va_X b L xs s s.heap) (hbl : b < s.heap.size) (hbA : ¬ A b) (hL : L ≤ 3072) {Rel : RelT} {hc hm : Nat} {AC : Nat → Nat → Nat} {am : Nat → Nat} (i : Nat) (hi : 6 * i + 6 ≤ L) (ST : St_book Rel) (V : Nat → Ob) (PK PI : PV) (M : Ob) (w1 w2 : va_W) (h1 : CW cA hc AC V PK PI w1) (h2 : MW cA hm am M w2) (hR : Rel V PK PI M) (KT : ∀ (V : Nat → Ob) (PK PI : PV) (M : Ob) (w1 w2 : va_W), CW cA hc AC V PK PI w1 → MW cA hm am M w2 → Rel V PK PI M → ZW p l e room_1 s m args below meth c D A 4 (95 + 28 * (i + 1)) (38338 + 823 * (i + 1)) Q (w1 ++ w2) [(0, .ref b), (1, .ref hc), (2, .ref hm), (3, .int (nI (6 * i)))] 1157 []) : ZW p l e room_1 s m args below meth c D A 4 (95 + 28 * i) (38338 + 823 * i) Q (w1 ++ w2) [(0, .ref b), (1, .ref hc), (2, .ref hm), (3, .int (nI (6 * i)))] 535 [] := by
  obtain ⟨V', PK', PI', M', r, hg, hh, hR'⟩ := ST V PK PI M (xs (6 * i + 1)) (xs (6 * i + 2)) (xs (6 * i + 3)) hR
  refine z_aload_n X dL_law_535 rfl 1 rfl ?_
  refine z_aload_n X dL_law_536 rfl 0 rfl ?_
  refine z_iload_n X dL_law_537 rfl 3 rfl ?_
  refine z_iconst (v := (1 : Int32)) X dL_law_538 (by decide) ?_
  refine z_iadd X dL_law_539 ?_
  refine z_nm (y := nI (6 * i + 1)) (nI_add (6 * i) 1).symm ?_
  refine z_sld X hX hbl hbA (k := 6 * i + 1) (by omega) (by omega) dL_law_540 ?_
  refine z_aload_n X dL_law_541 rfl 0 rfl ?_
  refine z_iload_n X dL_law_542 rfl 3 rfl ?_
  refine z_iconst (v := (2 : Int32)) X dL_law_543 (by decide) ?_
  refine z_iadd X dL_law_544 ?_
  refine z_nm (y := nI (6 * i + 2)) (nI_add (6 * i) 2).symm ?_
  refine z_sld X hX hbl hbA (k := 6 * i + 2) (by omega) (by omega) dL_law_545 ?_
  refine z_aload_n X dL_law_546 rfl 0 rfl ?_
  refine z_iload_n X dL_law_547 rfl 3 rfl ?_
  refine z_iconst (v := (3 : Int32)) X dL_law_548 (by decide) ?_
  refine z_iadd X dL_law_549 ?_
  refine z_nm (y := nI (6 * i + 3)) (nI_add (6 * i) 3).symm ?_
  refine z_sld X hX hbl hbA (k := 6 * i + 3) (by omega) (by omega) dL_law_550 ?_
  refine z_LC (As := [.int (xs (6 * i + 1)), .int (xs (6 * i + 2)), .int (xs (6 * i + 3))]) (rest := []) (rv := r) (C := RX11) (mc := 0) (ms := 0) X Y (cwV 3 X.2.2.2.2.1 gL_law_X11_book rfl rfl rfl (by decide +kernel) ⟨Nat.le_of_ble_eq_true rfl, Nat.le_of_ble_eq_true rfl⟩) (cw_recv h1) (fun sz => fc_book l D cA g hc AC V PK PI (xs (6 * i + 1)) (xs (6 * i + 2)) (xs (6 * i + 3)) V' PK' PI' r hg sz w1 h1) rfl rfl (Nat.le_of_ble_eq_true rfl) dL_law_551 ⟨by show _ + _ ≤ 600000; omega, by show _ + _ ≤ 7302250; omega⟩ (fun w3 h3 => ?_)
  refine z_aload_n X dL_law_554 rfl 2 rfl ?_
  refine z_aload_n X dL_law_555 rfl 0 rfl ?_
  refine z_iload_n X dL_law_556 rfl 3 rfl ?_
  refine z_iconst (v := (1 : Int32)) X dL_law_557 (by decide) ?_
  refine z_iadd X dL_law_558 ?_
  refine z_nm (y := nI (6 * i + 1)) (nI_add (6 * i) 1).symm ?_
  refine z_sld X hX hbl hbA (k := 6 * i + 1) (by omega) (by omega) dL_law_559 ?_
  refine z_aload_n X dL_law_560 rfl 0 rfl ?_
  refine z_iload_n X dL_law_561 rfl 3 rfl ?_
  refine z_iconst (v := (2 : Int32)) X dL_law_562 (by decide) ?_
  refine z_iadd X dL_law_563 ?_
  refine z_nm (y := nI (6 * i + 2)) (nI_add (6 * i) 2).symm ?_
  refine z_sld X hX hbl hbA (k := 6 * i + 2) (by omega) (by omega) dL_law_564 ?_
  refine z_aload_n X dL_law_565 rfl 0 rfl ?_
  refine z_iload_n X dL_law_566 rfl 3 rfl ?_
  refine z_iconst (v := (3 : Int32)) X dL_law_567 (by decide) ?_
  refine z_iadd X dL_law_568 ?_
  refine z_nm (y := nI (6 * i + 3)) (nI_add (6 * i) 3).symm ?_
  refine z_sld X hX hbl hbA (k := 6 * i + 3) (by omega) (by omega) dL_law_569 ?_
  refine z_perm List.perm_append_comm ?_
  refine z_LC (As := [.int (xs (6 * i + 1)), .int (xs (6 * i + 2)), .int (xs (6 * i + 3))]) (rest := [.int r]) (rv := r) (C := RX12) (mc := 0) (ms := 0) X Y (cwV 3 X.2.2.2.2.1 gL_law_X12_book rfl rfl rfl (by decide +kernel) ⟨Nat.le_of_ble_eq_true rfl, Nat.le_of_ble_eq_true rfl⟩) (mw_recv h2) (fun sz => fm_book l D cA g hm am M (xs (6 * i + 1)) (xs (6 * i + 2)) (xs (6 * i + 3)) M' r hh sz w2 h2) rfl rfl (Nat.le_of_ble_eq_true rfl) dL_law_570 ⟨by show _ + _ ≤ 600000; omega, by show _ + _ ≤ 7302250; omega⟩ (fun w4 h4 => ?_)
  refine z_perm List.perm_append_comm ?_
  refine z_icmp_eq (tgt := 1157) X dL_law_573 (by decide) (fun _ => ?_) (fun h => absurd rfl h)
  exact z_widen (by omega) (by omega) (KT V' PK' PI' M' w3 w4 h3 h4 hR')
set_option maxHeartbeats 4000000 in
set_option maxRecDepth 100000 in
theorem lc_booked {p : Program} {l : Launch} {e : Env} {s : State} {m : MethodId} {args : Array Value} {below : List Frame} {meth : Method} {c : Code} {D : va_G} {cA : Nat → ClassId} {g : Nat → Nat} {A : Nat → Prop} {Q : State → Prop} (X : ZC p s m args meth c code 4 RL wsL_law D cA g A) (Y : ny s) {b L : Nat} {xs : Nat → Int32} (hX : va_X b L xs s s.heap) (hbl : b < s.heap.size) (hbA : ¬ A b) (hL : L ≤ 3072) {Rel : RelT} {hc hm : Nat} {AC : Nat → Nat → Nat} {am : Nat → Nat} (i : Nat) (hi : 6 * i + 6 ≤ L) (ST : St_booked Rel) (V : Nat → Ob) (PK PI : PV) (M : Ob) (w1 w2 : va_W) (h1 : CW cA hc AC V PK PI w1) (h2 : MW cA hm am M w2) (hR : Rel V PK PI M) (KT : ∀ (V : Nat → Ob) (PK PI : PV) (M : Ob) (w1 w2 : va_W), CW cA hc AC V PK PI w1 → MW cA hm am M w2 → Rel V PK PI M → ZW p l e room_1 s m args below meth c D A 4 (95 + 28 * (i + 1)) (38338 + 823 * (i + 1)) Q (w1 ++ w2) [(0, .ref b), (1, .ref hc), (2, .ref hm), (3, .int (nI (6 * i)))] 1157 []) : ZW p l e room_1 s m args below meth c D A 4 (95 + 28 * i) (38338 + 823 * i) Q (w1 ++ w2) [(0, .ref b), (1, .ref hc), (2, .ref hm), (3, .int (nI (6 * i)))] 578 [] := by
  obtain ⟨V', PK', PI', M', r, hg, hh, hR'⟩ := ST V PK PI M (xs (6 * i + 1)) (xs (6 * i + 2)) hR
  refine z_aload_n X dL_law_578 rfl 1 rfl ?_
  refine z_aload_n X dL_law_579 rfl 0 rfl ?_
  refine z_iload_n X dL_law_580 rfl 3 rfl ?_
  refine z_iconst (v := (1 : Int32)) X dL_law_581 (by decide) ?_
  refine z_iadd X dL_law_582 ?_
  refine z_nm (y := nI (6 * i + 1)) (nI_add (6 * i) 1).symm ?_
  refine z_sld X hX hbl hbA (k := 6 * i + 1) (by omega) (by omega) dL_law_583 ?_
  refine z_aload_n X dL_law_584 rfl 0 rfl ?_
  refine z_iload_n X dL_law_585 rfl 3 rfl ?_
  refine z_iconst (v := (2 : Int32)) X dL_law_586 (by decide) ?_
  refine z_iadd X dL_law_587 ?_
  refine z_nm (y := nI (6 * i + 2)) (nI_add (6 * i) 2).symm ?_
  refine z_sld X hX hbl hbA (k := 6 * i + 2) (by omega) (by omega) dL_law_588 ?_
  refine z_LC (As := [.int (xs (6 * i + 1)), .int (xs (6 * i + 2))]) (rest := []) (rv := r) (C := RX11) (mc := 0) (ms := 0) X Y (cwV 2 X.2.2.2.2.1 gL_law_X11_booked rfl rfl rfl (by decide +kernel) ⟨Nat.le_of_ble_eq_true rfl, Nat.le_of_ble_eq_true rfl⟩) (cw_recv h1) (fun sz => fc_booked l D cA g hc AC V PK PI (xs (6 * i + 1)) (xs (6 * i + 2)) V' PK' PI' r hg sz w1 h1) rfl rfl (Nat.le_of_ble_eq_true rfl) dL_law_589 ⟨by show _ + _ ≤ 600000; omega, by show _ + _ ≤ 7302250; omega⟩ (fun w3 h3 => ?_)
  refine z_aload_n X dL_law_592 rfl 2 rfl ?_
  refine z_aload_n X dL_law_593 rfl 0 rfl ?_
  refine z_iload_n X dL_law_594 rfl 3 rfl ?_
  refine z_iconst (v := (1 : Int32)) X dL_law_595 (by decide) ?_
  refine z_iadd X dL_law_596 ?_
  refine z_nm (y := nI (6 * i + 1)) (nI_add (6 * i) 1).symm ?_
  refine z_sld X hX hbl hbA (k := 6 * i + 1) (by omega) (by omega) dL_law_597 ?_
  refine z_aload_n X dL_law_598 rfl 0 rfl ?_
  refine z_iload_n X dL_law_599 rfl 3 rfl ?_
  refine z_iconst (v := (2 : Int32)) X dL_law_600 (by decide) ?_
  refine z_iadd X dL_law_601 ?_
  refine z_nm (y := nI (6 * i + 2)) (nI_add (6 * i) 2).symm ?_
  refine z_sld X hX hbl hbA (k := 6 * i + 2) (by omega) (by omega) dL_law_602 ?_
  refine z_perm List.perm_append_comm ?_
  refine z_LC (As := [.int (xs (6 * i + 1)), .int (xs (6 * i + 2))]) (rest := [.int r]) (rv := r) (C := RX12) (mc := 0) (ms := 0) X Y (cwV 2 X.2.2.2.2.1 gL_law_X12_booked rfl rfl rfl (by decide +kernel) ⟨Nat.le_of_ble_eq_true rfl, Nat.le_of_ble_eq_true rfl⟩) (mw_recv h2) (fun sz => fm_booked l D cA g hm am M (xs (6 * i + 1)) (xs (6 * i + 2)) M' r hh sz w2 h2) rfl rfl (Nat.le_of_ble_eq_true rfl) dL_law_603 ⟨by show _ + _ ≤ 600000; omega, by show _ + _ ≤ 7302250; omega⟩ (fun w4 h4 => ?_)
  refine z_perm List.perm_append_comm ?_
  refine z_icmp_eq (tgt := 1157) X dL_law_606 (by decide) (fun _ => ?_) (fun h => absurd rfl h)
  exact z_widen (by omega) (by omega) (KT V' PK' PI' M' w3 w4 h3 h4 hR')
set_option maxHeartbeats 4000000 in
set_option maxRecDepth 100000 in
theorem lc_line {p : Program} {l : Launch} {e : Env} {s : State} {m : MethodId} {args : Array Value} {below : List Frame} {meth : Method} {c : Code} {D : va_G} {cA : Nat → ClassId} {g : Nat → Nat} {A : Nat → Prop} {Q : State → Prop} (X : ZC p s m args meth c code 4 RL wsL_law D cA g A) (Y : ny s) {b L : Nat} {xs : Nat → Int32} (hX : va_X b L xs s s.heap) (hbl : b < s.heap.size) (hbA : ¬ A b) (hL : L ≤ 3072) {Rel : RelT} {hc hm : Nat} {AC : Nat → Nat → Nat} {am : Nat → Nat} (i : Nat) (hi : 6 * i + 6 ≤ L) (ST : St_line Rel) (V : Nat → Ob) (PK PI : PV) (M : Ob) (w1 w2 : va_W) (h1 : CW cA hc AC V PK PI w1) (h2 : MW cA hm am M w2) (hR : Rel V PK PI M) (KT : ∀ (V : Nat → Ob) (PK PI : PV) (M : Ob) (w1 w2 : va_W), CW cA hc AC V PK PI w1 → MW cA hm am M w2 → Rel V PK PI M → ZW p l e room_1 s m args below meth c D A 4 (95 + 28 * (i + 1)) (38338 + 823 * (i + 1)) Q (w1 ++ w2) [(0, .ref b), (1, .ref hc), (2, .ref hm), (3, .int (nI (6 * i)))] 1157 []) : ZW p l e room_1 s m args below meth c D A 4 (95 + 28 * i) (38338 + 823 * i) Q (w1 ++ w2) [(0, .ref b), (1, .ref hc), (2, .ref hm), (3, .int (nI (6 * i)))] 611 [] := by
  obtain ⟨V', PK', PI', M', r, hg, hh, hR'⟩ := ST V PK PI M (xs (6 * i + 1)) (xs (6 * i + 2)) (xs (6 * i + 3)) hR
  refine z_aload_n X dL_law_611 rfl 1 rfl ?_
  refine z_aload_n X dL_law_612 rfl 0 rfl ?_
  refine z_iload_n X dL_law_613 rfl 3 rfl ?_
  refine z_iconst (v := (1 : Int32)) X dL_law_614 (by decide) ?_
  refine z_iadd X dL_law_615 ?_
  refine z_nm (y := nI (6 * i + 1)) (nI_add (6 * i) 1).symm ?_
  refine z_sld X hX hbl hbA (k := 6 * i + 1) (by omega) (by omega) dL_law_616 ?_
  refine z_aload_n X dL_law_617 rfl 0 rfl ?_
  refine z_iload_n X dL_law_618 rfl 3 rfl ?_
  refine z_iconst (v := (2 : Int32)) X dL_law_619 (by decide) ?_
  refine z_iadd X dL_law_620 ?_
  refine z_nm (y := nI (6 * i + 2)) (nI_add (6 * i) 2).symm ?_
  refine z_sld X hX hbl hbA (k := 6 * i + 2) (by omega) (by omega) dL_law_621 ?_
  refine z_aload_n X dL_law_622 rfl 0 rfl ?_
  refine z_iload_n X dL_law_623 rfl 3 rfl ?_
  refine z_iconst (v := (3 : Int32)) X dL_law_624 (by decide) ?_
  refine z_iadd X dL_law_625 ?_
  refine z_nm (y := nI (6 * i + 3)) (nI_add (6 * i) 3).symm ?_
  refine z_sld X hX hbl hbA (k := 6 * i + 3) (by omega) (by omega) dL_law_626 ?_
  refine z_LC (As := [.int (xs (6 * i + 1)), .int (xs (6 * i + 2)), .int (xs (6 * i + 3))]) (rest := []) (rv := r) (C := RX11) (mc := 0) (ms := 0) X Y (cwV 3 X.2.2.2.2.1 gL_law_X11_line rfl rfl rfl (by decide +kernel) ⟨Nat.le_of_ble_eq_true rfl, Nat.le_of_ble_eq_true rfl⟩) (cw_recv h1) (fun sz => fc_line l D cA g hc AC V PK PI (xs (6 * i + 1)) (xs (6 * i + 2)) (xs (6 * i + 3)) V' PK' PI' r hg sz w1 h1) rfl rfl (Nat.le_of_ble_eq_true rfl) dL_law_627 ⟨by show _ + _ ≤ 600000; omega, by show _ + _ ≤ 7302250; omega⟩ (fun w3 h3 => ?_)
  refine z_aload_n X dL_law_630 rfl 2 rfl ?_
  refine z_aload_n X dL_law_631 rfl 0 rfl ?_
  refine z_iload_n X dL_law_632 rfl 3 rfl ?_
  refine z_iconst (v := (1 : Int32)) X dL_law_633 (by decide) ?_
  refine z_iadd X dL_law_634 ?_
  refine z_nm (y := nI (6 * i + 1)) (nI_add (6 * i) 1).symm ?_
  refine z_sld X hX hbl hbA (k := 6 * i + 1) (by omega) (by omega) dL_law_635 ?_
  refine z_aload_n X dL_law_636 rfl 0 rfl ?_
  refine z_iload_n X dL_law_637 rfl 3 rfl ?_
  refine z_iconst (v := (2 : Int32)) X dL_law_638 (by decide) ?_
  refine z_iadd X dL_law_639 ?_
  refine z_nm (y := nI (6 * i + 2)) (nI_add (6 * i) 2).symm ?_
  refine z_sld X hX hbl hbA (k := 6 * i + 2) (by omega) (by omega) dL_law_640 ?_
  refine z_aload_n X dL_law_641 rfl 0 rfl ?_
  refine z_iload_n X dL_law_642 rfl 3 rfl ?_
  refine z_iconst (v := (3 : Int32)) X dL_law_643 (by decide) ?_
  refine z_iadd X dL_law_644 ?_
  refine z_nm (y := nI (6 * i + 3)) (nI_add (6 * i) 3).symm ?_
  refine z_sld X hX hbl hbA (k := 6 * i + 3) (by omega) (by omega) dL_law_645 ?_
  refine z_perm List.perm_append_comm ?_
  refine z_LC (As := [.int (xs (6 * i + 1)), .int (xs (6 * i + 2)), .int (xs (6 * i + 3))]) (rest := [.int r]) (rv := r) (C := RX12) (mc := 0) (ms := 0) X Y (cwV 3 X.2.2.2.2.1 gL_law_X12_line rfl rfl rfl (by decide +kernel) ⟨Nat.le_of_ble_eq_true rfl, Nat.le_of_ble_eq_true rfl⟩) (mw_recv h2) (fun sz => fm_line l D cA g hm am M (xs (6 * i + 1)) (xs (6 * i + 2)) (xs (6 * i + 3)) M' r hh sz w2 h2) rfl rfl (Nat.le_of_ble_eq_true rfl) dL_law_646 ⟨by show _ + _ ≤ 600000; omega, by show _ + _ ≤ 7302250; omega⟩ (fun w4 h4 => ?_)
  refine z_perm List.perm_append_comm ?_
  refine z_icmp_eq (tgt := 1157) X dL_law_649 (by decide) (fun _ => ?_) (fun h => absurd rfl h)
  exact z_widen (by omega) (by omega) (KT V' PK' PI' M' w3 w4 h3 h4 hR')
set_option maxHeartbeats 4000000 in
set_option maxRecDepth 100000 in
theorem lc_best {p : Program} {l : Launch} {e : Env} {s : State} {m : MethodId} {args : Array Value} {below : List Frame} {meth : Method} {c : Code} {D : va_G} {cA : Nat → ClassId} {g : Nat → Nat} {A : Nat → Prop} {Q : State → Prop} (X : ZC p s m args meth c code 4 RL wsL_law D cA g A) (Y : ny s) {b L : Nat} {xs : Nat → Int32} (hX : va_X b L xs s s.heap) (hbl : b < s.heap.size) (hbA : ¬ A b) (hL : L ≤ 3072) {Rel : RelT} {hc hm : Nat} {AC : Nat → Nat → Nat} {am : Nat → Nat} (i : Nat) (hi : 6 * i + 6 ≤ L) (ST : St_best Rel) (V : Nat → Ob) (PK PI : PV) (M : Ob) (w1 w2 : va_W) (h1 : CW cA hc AC V PK PI w1) (h2 : MW cA hm am M w2) (hR : Rel V PK PI M) (KT : ∀ (V : Nat → Ob) (PK PI : PV) (M : Ob) (w1 w2 : va_W), CW cA hc AC V PK PI w1 → MW cA hm am M w2 → Rel V PK PI M → ZW p l e room_1 s m args below meth c D A 4 (95 + 28 * (i + 1)) (38338 + 823 * (i + 1)) Q (w1 ++ w2) [(0, .ref b), (1, .ref hc), (2, .ref hm), (3, .int (nI (6 * i)))] 1157 []) : ZW p l e room_1 s m args below meth c D A 4 (95 + 28 * i) (38338 + 823 * i) Q (w1 ++ w2) [(0, .ref b), (1, .ref hc), (2, .ref hm), (3, .int (nI (6 * i)))] 654 [] := by
  obtain ⟨V', PK', PI', M', r, hg, hh, hR'⟩ := ST V PK PI M  hR
  refine z_aload_n X dL_law_654 rfl 1 rfl ?_
  refine z_LC (As := []) (rest := []) (rv := r) (C := RX11) (mc := 0) (ms := 0) X Y (cwV 0 X.2.2.2.2.1 gL_law_X11_best rfl rfl rfl (by decide +kernel) ⟨Nat.le_of_ble_eq_true rfl, Nat.le_of_ble_eq_true rfl⟩) (cw_recv h1) (fun sz => fc_best l D cA g hc AC V PK PI  V' PK' PI' r hg sz w1 h1) rfl rfl (Nat.le_of_ble_eq_true rfl) dL_law_655 ⟨by show _ + _ ≤ 600000; omega, by show _ + _ ≤ 7302250; omega⟩ (fun w3 h3 => ?_)
  refine z_aload_n X dL_law_658 rfl 2 rfl ?_
  refine z_perm List.perm_append_comm ?_
  refine z_LC (As := []) (rest := [.int r]) (rv := r) (C := RX12) (mc := 0) (ms := 0) X Y (cwV 0 X.2.2.2.2.1 gL_law_X12_best rfl rfl rfl (by decide +kernel) ⟨Nat.le_of_ble_eq_true rfl, Nat.le_of_ble_eq_true rfl⟩) (mw_recv h2) (fun sz => fm_best l D cA g hm am M  M' r hh sz w2 h2) rfl rfl (Nat.le_of_ble_eq_true rfl) dL_law_659 ⟨by show _ + _ ≤ 600000; omega, by show _ + _ ≤ 7302250; omega⟩ (fun w4 h4 => ?_)
  refine z_perm List.perm_append_comm ?_
  refine z_icmp_eq (tgt := 1157) X dL_law_662 (by decide) (fun _ => ?_) (fun h => absurd rfl h)
  exact z_widen (by omega) (by omega) (KT V' PK' PI' M' w3 w4 h3 h4 hR')
set_option maxHeartbeats 4000000 in
set_option maxRecDepth 100000 in
theorem lc_plan {p : Program} {l : Launch} {e : Env} {s : State} {m : MethodId} {args : Array Value} {below : List Frame} {meth : Method} {c : Code} {D : va_G} {cA : Nat → ClassId} {g : Nat → Nat} {A : Nat → Prop} {Q : State → Prop} (X : ZC p s m args meth c code 4 RL wsL_law D cA g A) (Y : ny s) {b L : Nat} {xs : Nat → Int32} (hX : va_X b L xs s s.heap) (hbl : b < s.heap.size) (hbA : ¬ A b) (hL : L ≤ 3072) {Rel : RelT} {hc hm : Nat} {AC : Nat → Nat → Nat} {am : Nat → Nat} (i : Nat) (hi : 6 * i + 6 ≤ L) (ST : St_plan Rel) (V : Nat → Ob) (PK PI : PV) (M : Ob) (w1 w2 : va_W) (h1 : CW cA hc AC V PK PI w1) (h2 : MW cA hm am M w2) (hR : Rel V PK PI M) (KT : ∀ (V : Nat → Ob) (PK PI : PV) (M : Ob) (w1 w2 : va_W), CW cA hc AC V PK PI w1 → MW cA hm am M w2 → Rel V PK PI M → ZW p l e room_1 s m args below meth c D A 4 (95 + 28 * (i + 1)) (38338 + 823 * (i + 1)) Q (w1 ++ w2) [(0, .ref b), (1, .ref hc), (2, .ref hm), (3, .int (nI (6 * i)))] 1157 []) : ZW p l e room_1 s m args below meth c D A 4 (95 + 28 * i) (38338 + 823 * i) Q (w1 ++ w2) [(0, .ref b), (1, .ref hc), (2, .ref hm), (3, .int (nI (6 * i)))] 667 [] := by
  obtain ⟨V', PK', PI', M', r, hg, hh, hR'⟩ := ST V PK PI M (xs (6 * i + 1)) (xs (6 * i + 2)) hR
  refine z_aload_n X dL_law_667 rfl 1 rfl ?_
  refine z_aload_n X dL_law_668 rfl 0 rfl ?_
  refine z_iload_n X dL_law_669 rfl 3 rfl ?_
  refine z_iconst (v := (1 : Int32)) X dL_law_670 (by decide) ?_
  refine z_iadd X dL_law_671 ?_
  refine z_nm (y := nI (6 * i + 1)) (nI_add (6 * i) 1).symm ?_
  refine z_sld X hX hbl hbA (k := 6 * i + 1) (by omega) (by omega) dL_law_672 ?_
  refine z_aload_n X dL_law_673 rfl 0 rfl ?_
  refine z_iload_n X dL_law_674 rfl 3 rfl ?_
  refine z_iconst (v := (2 : Int32)) X dL_law_675 (by decide) ?_
  refine z_iadd X dL_law_676 ?_
  refine z_nm (y := nI (6 * i + 2)) (nI_add (6 * i) 2).symm ?_
  refine z_sld X hX hbl hbA (k := 6 * i + 2) (by omega) (by omega) dL_law_677 ?_
  refine z_LC (As := [.int (xs (6 * i + 1)), .int (xs (6 * i + 2))]) (rest := []) (rv := r) (C := RX11) (mc := 0) (ms := 0) X Y (cwV 2 X.2.2.2.2.1 gL_law_X11_plan rfl rfl rfl (by decide +kernel) ⟨Nat.le_of_ble_eq_true rfl, Nat.le_of_ble_eq_true rfl⟩) (cw_recv h1) (fun sz => fc_plan l D cA g hc AC V PK PI (xs (6 * i + 1)) (xs (6 * i + 2)) V' PK' PI' r hg sz w1 h1) rfl rfl (Nat.le_of_ble_eq_true rfl) dL_law_678 ⟨by show _ + _ ≤ 600000; omega, by show _ + _ ≤ 7302250; omega⟩ (fun w3 h3 => ?_)
  refine z_aload_n X dL_law_681 rfl 2 rfl ?_
  refine z_aload_n X dL_law_682 rfl 0 rfl ?_
  refine z_iload_n X dL_law_683 rfl 3 rfl ?_
  refine z_iconst (v := (1 : Int32)) X dL_law_684 (by decide) ?_
  refine z_iadd X dL_law_685 ?_
  refine z_nm (y := nI (6 * i + 1)) (nI_add (6 * i) 1).symm ?_
  refine z_sld X hX hbl hbA (k := 6 * i + 1) (by omega) (by omega) dL_law_686 ?_
  refine z_aload_n X dL_law_687 rfl 0 rfl ?_
  refine z_iload_n X dL_law_688 rfl 3 rfl ?_
  refine z_iconst (v := (2 : Int32)) X dL_law_689 (by decide) ?_
  refine z_iadd X dL_law_690 ?_
  refine z_nm (y := nI (6 * i + 2)) (nI_add (6 * i) 2).symm ?_
  refine z_sld X hX hbl hbA (k := 6 * i + 2) (by omega) (by omega) dL_law_691 ?_
  refine z_perm List.perm_append_comm ?_
  refine z_LC (As := [.int (xs (6 * i + 1)), .int (xs (6 * i + 2))]) (rest := [.int r]) (rv := r) (C := RX12) (mc := 0) (ms := 0) X Y (cwV 2 X.2.2.2.2.1 gL_law_X12_plan rfl rfl rfl (by decide +kernel) ⟨Nat.le_of_ble_eq_true rfl, Nat.le_of_ble_eq_true rfl⟩) (mw_recv h2) (fun sz => fm_plan l D cA g hm am M (xs (6 * i + 1)) (xs (6 * i + 2)) M' r hh sz w2 h2) rfl rfl (Nat.le_of_ble_eq_true rfl) dL_law_692 ⟨by show _ + _ ≤ 600000; omega, by show _ + _ ≤ 7302250; omega⟩ (fun w4 h4 => ?_)
  refine z_perm List.perm_append_comm ?_
  refine z_icmp_eq (tgt := 1157) X dL_law_695 (by decide) (fun _ => ?_) (fun h => absurd rfl h)
  exact z_widen (by omega) (by omega) (KT V' PK' PI' M' w3 w4 h3 h4 hR')
set_option maxHeartbeats 4000000 in
set_option maxRecDepth 100000 in
theorem lc_potential {p : Program} {l : Launch} {e : Env} {s : State} {m : MethodId} {args : Array Value} {below : List Frame} {meth : Method} {c : Code} {D : va_G} {cA : Nat → ClassId} {g : Nat → Nat} {A : Nat → Prop} {Q : State → Prop} (X : ZC p s m args meth c code 4 RL wsL_law D cA g A) (Y : ny s) {b L : Nat} {xs : Nat → Int32} (hX : va_X b L xs s s.heap) (hbl : b < s.heap.size) (hbA : ¬ A b) (hL : L ≤ 3072) {Rel : RelT} {hc hm : Nat} {AC : Nat → Nat → Nat} {am : Nat → Nat} (i : Nat) (hi : 6 * i + 6 ≤ L) (ST : St_potential Rel) (V : Nat → Ob) (PK PI : PV) (M : Ob) (w1 w2 : va_W) (h1 : CW cA hc AC V PK PI w1) (h2 : MW cA hm am M w2) (hR : Rel V PK PI M) (KT : ∀ (V : Nat → Ob) (PK PI : PV) (M : Ob) (w1 w2 : va_W), CW cA hc AC V PK PI w1 → MW cA hm am M w2 → Rel V PK PI M → ZW p l e room_1 s m args below meth c D A 4 (95 + 28 * (i + 1)) (38338 + 823 * (i + 1)) Q (w1 ++ w2) [(0, .ref b), (1, .ref hc), (2, .ref hm), (3, .int (nI (6 * i)))] 1157 []) : ZW p l e room_1 s m args below meth c D A 4 (95 + 28 * i) (38338 + 823 * i) Q (w1 ++ w2) [(0, .ref b), (1, .ref hc), (2, .ref hm), (3, .int (nI (6 * i)))] 700 [] := by
  obtain ⟨V', PK', PI', M', r, hg, hh, hR'⟩ := ST V PK PI M (xs (6 * i + 1)) hR
  refine z_aload_n X dL_law_700 rfl 1 rfl ?_
  refine z_aload_n X dL_law_701 rfl 0 rfl ?_
  refine z_iload_n X dL_law_702 rfl 3 rfl ?_
  refine z_iconst (v := (1 : Int32)) X dL_law_703 (by decide) ?_
  refine z_iadd X dL_law_704 ?_
  refine z_nm (y := nI (6 * i + 1)) (nI_add (6 * i) 1).symm ?_
  refine z_sld X hX hbl hbA (k := 6 * i + 1) (by omega) (by omega) dL_law_705 ?_
  refine z_LC (As := [.int (xs (6 * i + 1))]) (rest := []) (rv := r) (C := RX11) (mc := 0) (ms := 0) X Y (cwV 1 X.2.2.2.2.1 gL_law_X11_potential rfl rfl rfl (by decide +kernel) ⟨Nat.le_of_ble_eq_true rfl, Nat.le_of_ble_eq_true rfl⟩) (cw_recv h1) (fun sz => fc_potential l D cA g hc AC V PK PI (xs (6 * i + 1)) V' PK' PI' r hg sz w1 h1) rfl rfl (Nat.le_of_ble_eq_true rfl) dL_law_706 ⟨by show _ + _ ≤ 600000; omega, by show _ + _ ≤ 7302250; omega⟩ (fun w3 h3 => ?_)
  refine z_aload_n X dL_law_709 rfl 2 rfl ?_
  refine z_aload_n X dL_law_710 rfl 0 rfl ?_
  refine z_iload_n X dL_law_711 rfl 3 rfl ?_
  refine z_iconst (v := (1 : Int32)) X dL_law_712 (by decide) ?_
  refine z_iadd X dL_law_713 ?_
  refine z_nm (y := nI (6 * i + 1)) (nI_add (6 * i) 1).symm ?_
  refine z_sld X hX hbl hbA (k := 6 * i + 1) (by omega) (by omega) dL_law_714 ?_
  refine z_perm List.perm_append_comm ?_
  refine z_LC (As := [.int (xs (6 * i + 1))]) (rest := [.int r]) (rv := r) (C := RX12) (mc := 0) (ms := 0) X Y (cwV 1 X.2.2.2.2.1 gL_law_X12_potential rfl rfl rfl (by decide +kernel) ⟨Nat.le_of_ble_eq_true rfl, Nat.le_of_ble_eq_true rfl⟩) (mw_recv h2) (fun sz => fm_potential l D cA g hm am M (xs (6 * i + 1)) M' r hh sz w2 h2) rfl rfl (Nat.le_of_ble_eq_true rfl) dL_law_715 ⟨by show _ + _ ≤ 600000; omega, by show _ + _ ≤ 7302250; omega⟩ (fun w4 h4 => ?_)
  refine z_perm List.perm_append_comm ?_
  refine z_icmp_eq (tgt := 1157) X dL_law_718 (by decide) (fun _ => ?_) (fun h => absurd rfl h)
  exact z_widen (by omega) (by omega) (KT V' PK' PI' M' w3 w4 h3 h4 hR')
set_option maxHeartbeats 4000000 in
set_option maxRecDepth 100000 in
theorem lc_proof {p : Program} {l : Launch} {e : Env} {s : State} {m : MethodId} {args : Array Value} {below : List Frame} {meth : Method} {c : Code} {D : va_G} {cA : Nat → ClassId} {g : Nat → Nat} {A : Nat → Prop} {Q : State → Prop} (X : ZC p s m args meth c code 4 RL wsL_law D cA g A) (Y : ny s) {b L : Nat} {xs : Nat → Int32} (hX : va_X b L xs s s.heap) (hbl : b < s.heap.size) (hbA : ¬ A b) (hL : L ≤ 3072) {Rel : RelT} {hc hm : Nat} {AC : Nat → Nat → Nat} {am : Nat → Nat} (i : Nat) (hi : 6 * i + 6 ≤ L) (ST : St_proof Rel) (V : Nat → Ob) (PK PI : PV) (M : Ob) (w1 w2 : va_W) (h1 : CW cA hc AC V PK PI w1) (h2 : MW cA hm am M w2) (hR : Rel V PK PI M) (KT : ∀ (V : Nat → Ob) (PK PI : PV) (M : Ob) (w1 w2 : va_W), CW cA hc AC V PK PI w1 → MW cA hm am M w2 → Rel V PK PI M → ZW p l e room_1 s m args below meth c D A 4 (95 + 28 * (i + 1)) (38338 + 823 * (i + 1)) Q (w1 ++ w2) [(0, .ref b), (1, .ref hc), (2, .ref hm), (3, .int (nI (6 * i)))] 1157 []) : ZW p l e room_1 s m args below meth c D A 4 (95 + 28 * i) (38338 + 823 * i) Q (w1 ++ w2) [(0, .ref b), (1, .ref hc), (2, .ref hm), (3, .int (nI (6 * i)))] 723 [] := by
  obtain ⟨V', PK', PI', M', r, hg, hh, hR'⟩ := ST V PK PI M (xs (6 * i + 1)) hR
  refine z_aload_n X dL_law_723 rfl 1 rfl ?_
  refine z_aload_n X dL_law_724 rfl 0 rfl ?_
  refine z_iload_n X dL_law_725 rfl 3 rfl ?_
  refine z_iconst (v := (1 : Int32)) X dL_law_726 (by decide) ?_
  refine z_iadd X dL_law_727 ?_
  refine z_nm (y := nI (6 * i + 1)) (nI_add (6 * i) 1).symm ?_
  refine z_sld X hX hbl hbA (k := 6 * i + 1) (by omega) (by omega) dL_law_728 ?_
  refine z_LC (As := [.int (xs (6 * i + 1))]) (rest := []) (rv := r) (C := RX11) (mc := 0) (ms := 0) X Y (cwV 1 X.2.2.2.2.1 gL_law_X11_proof rfl rfl rfl (by decide +kernel) ⟨Nat.le_of_ble_eq_true rfl, Nat.le_of_ble_eq_true rfl⟩) (cw_recv h1) (fun sz => fc_proof l D cA g hc AC V PK PI (xs (6 * i + 1)) V' PK' PI' r hg sz w1 h1) rfl rfl (Nat.le_of_ble_eq_true rfl) dL_law_729 ⟨by show _ + _ ≤ 600000; omega, by show _ + _ ≤ 7302250; omega⟩ (fun w3 h3 => ?_)
  refine z_aload_n X dL_law_732 rfl 2 rfl ?_
  refine z_aload_n X dL_law_733 rfl 0 rfl ?_
  refine z_iload_n X dL_law_734 rfl 3 rfl ?_
  refine z_iconst (v := (1 : Int32)) X dL_law_735 (by decide) ?_
  refine z_iadd X dL_law_736 ?_
  refine z_nm (y := nI (6 * i + 1)) (nI_add (6 * i) 1).symm ?_
  refine z_sld X hX hbl hbA (k := 6 * i + 1) (by omega) (by omega) dL_law_737 ?_
  refine z_perm List.perm_append_comm ?_
  refine z_LC (As := [.int (xs (6 * i + 1))]) (rest := [.int r]) (rv := r) (C := RX12) (mc := 0) (ms := 0) X Y (cwV 1 X.2.2.2.2.1 gL_law_X12_proof rfl rfl rfl (by decide +kernel) ⟨Nat.le_of_ble_eq_true rfl, Nat.le_of_ble_eq_true rfl⟩) (mw_recv h2) (fun sz => fm_proof l D cA g hm am M (xs (6 * i + 1)) M' r hh sz w2 h2) rfl rfl (Nat.le_of_ble_eq_true rfl) dL_law_738 ⟨by show _ + _ ≤ 600000; omega, by show _ + _ ≤ 7302250; omega⟩ (fun w4 h4 => ?_)
  refine z_perm List.perm_append_comm ?_
  refine z_icmp_eq (tgt := 1157) X dL_law_741 (by decide) (fun _ => ?_) (fun h => absurd rfl h)
  exact z_widen (by omega) (by omega) (KT V' PK' PI' M' w3 w4 h3 h4 hR')
set_option maxHeartbeats 4000000 in
set_option maxRecDepth 100000 in
theorem lc_bestWith {p : Program} {l : Launch} {e : Env} {s : State} {m : MethodId} {args : Array Value} {below : List Frame} {meth : Method} {c : Code} {D : va_G} {cA : Nat → ClassId} {g : Nat → Nat} {A : Nat → Prop} {Q : State → Prop} (X : ZC p s m args meth c code 4 RL wsL_law D cA g A) (Y : ny s) {b L : Nat} {xs : Nat → Int32} (hX : va_X b L xs s s.heap) (hbl : b < s.heap.size) (hbA : ¬ A b) (hL : L ≤ 3072) {Rel : RelT} {hc hm : Nat} {AC : Nat → Nat → Nat} {am : Nat → Nat} (i : Nat) (hi : 6 * i + 6 ≤ L) (ST : St_bestWith Rel) (V : Nat → Ob) (PK PI : PV) (M : Ob) (w1 w2 : va_W) (h1 : CW cA hc AC V PK PI w1) (h2 : MW cA hm am M w2) (hR : Rel V PK PI M) (KT : ∀ (V : Nat → Ob) (PK PI : PV) (M : Ob) (w1 w2 : va_W), CW cA hc AC V PK PI w1 → MW cA hm am M w2 → Rel V PK PI M → ZW p l e room_1 s m args below meth c D A 4 (95 + 28 * (i + 1)) (38338 + 823 * (i + 1)) Q (w1 ++ w2) [(0, .ref b), (1, .ref hc), (2, .ref hm), (3, .int (nI (6 * i)))] 1157 []) : ZW p l e room_1 s m args below meth c D A 4 (95 + 28 * i) (38338 + 823 * i) Q (w1 ++ w2) [(0, .ref b), (1, .ref hc), (2, .ref hm), (3, .int (nI (6 * i)))] 746 [] := by
  obtain ⟨V', PK', PI', M', r, hg, hh, hR'⟩ := ST V PK PI M (xs (6 * i + 1)) hR
  refine z_aload_n X dL_law_746 rfl 1 rfl ?_
  refine z_aload_n X dL_law_747 rfl 0 rfl ?_
  refine z_iload_n X dL_law_748 rfl 3 rfl ?_
  refine z_iconst (v := (1 : Int32)) X dL_law_749 (by decide) ?_
  refine z_iadd X dL_law_750 ?_
  refine z_nm (y := nI (6 * i + 1)) (nI_add (6 * i) 1).symm ?_
  refine z_sld X hX hbl hbA (k := 6 * i + 1) (by omega) (by omega) dL_law_751 ?_
  refine z_LC (As := [.int (xs (6 * i + 1))]) (rest := []) (rv := r) (C := RX11) (mc := 0) (ms := 0) X Y (cwV 1 X.2.2.2.2.1 gL_law_X11_bestWith rfl rfl rfl (by decide +kernel) ⟨Nat.le_of_ble_eq_true rfl, Nat.le_of_ble_eq_true rfl⟩) (cw_recv h1) (fun sz => fc_bestWith l D cA g hc AC V PK PI (xs (6 * i + 1)) V' PK' PI' r hg sz w1 h1) rfl rfl (Nat.le_of_ble_eq_true rfl) dL_law_752 ⟨by show _ + _ ≤ 600000; omega, by show _ + _ ≤ 7302250; omega⟩ (fun w3 h3 => ?_)
  refine z_aload_n X dL_law_755 rfl 2 rfl ?_
  refine z_aload_n X dL_law_756 rfl 0 rfl ?_
  refine z_iload_n X dL_law_757 rfl 3 rfl ?_
  refine z_iconst (v := (1 : Int32)) X dL_law_758 (by decide) ?_
  refine z_iadd X dL_law_759 ?_
  refine z_nm (y := nI (6 * i + 1)) (nI_add (6 * i) 1).symm ?_
  refine z_sld X hX hbl hbA (k := 6 * i + 1) (by omega) (by omega) dL_law_760 ?_
  refine z_perm List.perm_append_comm ?_
  refine z_LC (As := [.int (xs (6 * i + 1))]) (rest := [.int r]) (rv := r) (C := RX12) (mc := 0) (ms := 0) X Y (cwV 1 X.2.2.2.2.1 gL_law_X12_bestWith rfl rfl rfl (by decide +kernel) ⟨Nat.le_of_ble_eq_true rfl, Nat.le_of_ble_eq_true rfl⟩) (mw_recv h2) (fun sz => fm_bestWith l D cA g hm am M (xs (6 * i + 1)) M' r hh sz w2 h2) rfl rfl (Nat.le_of_ble_eq_true rfl) dL_law_761 ⟨by show _ + _ ≤ 600000; omega, by show _ + _ ≤ 7302250; omega⟩ (fun w4 h4 => ?_)
  refine z_perm List.perm_append_comm ?_
  refine z_icmp_eq (tgt := 1157) X dL_law_764 (by decide) (fun _ => ?_) (fun h => absurd rfl h)
  exact z_widen (by omega) (by omega) (KT V' PK' PI' M' w3 w4 h3 h4 hR')
set_option maxHeartbeats 4000000 in
set_option maxRecDepth 100000 in
theorem lc_soon {p : Program} {l : Launch} {e : Env} {s : State} {m : MethodId} {args : Array Value} {below : List Frame} {meth : Method} {c : Code} {D : va_G} {cA : Nat → ClassId} {g : Nat → Nat} {A : Nat → Prop} {Q : State → Prop} (X : ZC p s m args meth c code 4 RL wsL_law D cA g A) (Y : ny s) {b L : Nat} {xs : Nat → Int32} (hX : va_X b L xs s s.heap) (hbl : b < s.heap.size) (hbA : ¬ A b) (hL : L ≤ 3072) {Rel : RelT} {hc hm : Nat} {AC : Nat → Nat → Nat} {am : Nat → Nat} (i : Nat) (hi : 6 * i + 6 ≤ L) (ST : St_soon Rel) (V : Nat → Ob) (PK PI : PV) (M : Ob) (w1 w2 : va_W) (h1 : CW cA hc AC V PK PI w1) (h2 : MW cA hm am M w2) (hR : Rel V PK PI M) (KT : ∀ (V : Nat → Ob) (PK PI : PV) (M : Ob) (w1 w2 : va_W), CW cA hc AC V PK PI w1 → MW cA hm am M w2 → Rel V PK PI M → ZW p l e room_1 s m args below meth c D A 4 (95 + 28 * (i + 1)) (38338 + 823 * (i + 1)) Q (w1 ++ w2) [(0, .ref b), (1, .ref hc), (2, .ref hm), (3, .int (nI (6 * i)))] 1157 []) : ZW p l e room_1 s m args below meth c D A 4 (95 + 28 * i) (38338 + 823 * i) Q (w1 ++ w2) [(0, .ref b), (1, .ref hc), (2, .ref hm), (3, .int (nI (6 * i)))] 769 [] := by
  obtain ⟨V', PK', PI', M', r, hg, hh, hR'⟩ := ST V PK PI M (xs (6 * i + 1)) hR
  refine z_aload_n X dL_law_769 rfl 1 rfl ?_
  refine z_aload_n X dL_law_770 rfl 0 rfl ?_
  refine z_iload_n X dL_law_771 rfl 3 rfl ?_
  refine z_iconst (v := (1 : Int32)) X dL_law_772 (by decide) ?_
  refine z_iadd X dL_law_773 ?_
  refine z_nm (y := nI (6 * i + 1)) (nI_add (6 * i) 1).symm ?_
  refine z_sld X hX hbl hbA (k := 6 * i + 1) (by omega) (by omega) dL_law_774 ?_
  refine z_LC (As := [.int (xs (6 * i + 1))]) (rest := []) (rv := r) (C := RX11) (mc := 0) (ms := 0) X Y (cwV 1 X.2.2.2.2.1 gL_law_X11_soon rfl rfl rfl (by decide +kernel) ⟨Nat.le_of_ble_eq_true rfl, Nat.le_of_ble_eq_true rfl⟩) (cw_recv h1) (fun sz => fc_soon l D cA g hc AC V PK PI (xs (6 * i + 1)) V' PK' PI' r hg sz w1 h1) rfl rfl (Nat.le_of_ble_eq_true rfl) dL_law_775 ⟨by show _ + _ ≤ 600000; omega, by show _ + _ ≤ 7302250; omega⟩ (fun w3 h3 => ?_)
  refine z_aload_n X dL_law_778 rfl 2 rfl ?_
  refine z_aload_n X dL_law_779 rfl 0 rfl ?_
  refine z_iload_n X dL_law_780 rfl 3 rfl ?_
  refine z_iconst (v := (1 : Int32)) X dL_law_781 (by decide) ?_
  refine z_iadd X dL_law_782 ?_
  refine z_nm (y := nI (6 * i + 1)) (nI_add (6 * i) 1).symm ?_
  refine z_sld X hX hbl hbA (k := 6 * i + 1) (by omega) (by omega) dL_law_783 ?_
  refine z_perm List.perm_append_comm ?_
  refine z_LC (As := [.int (xs (6 * i + 1))]) (rest := [.int r]) (rv := r) (C := RX12) (mc := 0) (ms := 0) X Y (cwV 1 X.2.2.2.2.1 gL_law_X12_soon rfl rfl rfl (by decide +kernel) ⟨Nat.le_of_ble_eq_true rfl, Nat.le_of_ble_eq_true rfl⟩) (mw_recv h2) (fun sz => fm_soon l D cA g hm am M (xs (6 * i + 1)) M' r hh sz w2 h2) rfl rfl (Nat.le_of_ble_eq_true rfl) dL_law_784 ⟨by show _ + _ ≤ 600000; omega, by show _ + _ ≤ 7302250; omega⟩ (fun w4 h4 => ?_)
  refine z_perm List.perm_append_comm ?_
  refine z_icmp_eq (tgt := 1157) X dL_law_787 (by decide) (fun _ => ?_) (fun h => absurd rfl h)
  exact z_widen (by omega) (by omega) (KT V' PK' PI' M' w3 w4 h3 h4 hR')
set_option maxHeartbeats 4000000 in
set_option maxRecDepth 100000 in
theorem lc_victims {p : Program} {l : Launch} {e : Env} {s : State} {m : MethodId} {args : Array Value} {below : List Frame} {meth : Method} {c : Code} {D : va_G} {cA : Nat → ClassId} {g : Nat → Nat} {A : Nat → Prop} {Q : State → Prop} (X : ZC p s m args meth c code 4 RL wsL_law D cA g A) (Y : ny s) {b L : Nat} {xs : Nat → Int32} (hX : va_X b L xs s s.heap) (hbl : b < s.heap.size) (hbA : ¬ A b) (hL : L ≤ 3072) {Rel : RelT} {hc hm : Nat} {AC : Nat → Nat → Nat} {am : Nat → Nat} (i : Nat) (hi : 6 * i + 6 ≤ L) (ST : St_victims Rel) (V : Nat → Ob) (PK PI : PV) (M : Ob) (w1 w2 : va_W) (h1 : CW cA hc AC V PK PI w1) (h2 : MW cA hm am M w2) (hR : Rel V PK PI M) (KT : ∀ (V : Nat → Ob) (PK PI : PV) (M : Ob) (w1 w2 : va_W), CW cA hc AC V PK PI w1 → MW cA hm am M w2 → Rel V PK PI M → ZW p l e room_1 s m args below meth c D A 4 (95 + 28 * (i + 1)) (38338 + 823 * (i + 1)) Q (w1 ++ w2) [(0, .ref b), (1, .ref hc), (2, .ref hm), (3, .int (nI (6 * i)))] 1157 []) : ZW p l e room_1 s m args below meth c D A 4 (95 + 28 * i) (38338 + 823 * i) Q (w1 ++ w2) [(0, .ref b), (1, .ref hc), (2, .ref hm), (3, .int (nI (6 * i)))] 792 [] := by
  obtain ⟨V', PK', PI', M', r, hg, hh, hR'⟩ := ST V PK PI M (xs (6 * i + 1)) hR
  refine z_aload_n X dL_law_792 rfl 1 rfl ?_
  refine z_aload_n X dL_law_793 rfl 0 rfl ?_
  refine z_iload_n X dL_law_794 rfl 3 rfl ?_
  refine z_iconst (v := (1 : Int32)) X dL_law_795 (by decide) ?_
  refine z_iadd X dL_law_796 ?_
  refine z_nm (y := nI (6 * i + 1)) (nI_add (6 * i) 1).symm ?_
  refine z_sld X hX hbl hbA (k := 6 * i + 1) (by omega) (by omega) dL_law_797 ?_
  refine z_LC (As := [.int (xs (6 * i + 1))]) (rest := []) (rv := r) (C := RX11) (mc := 0) (ms := 0) X Y (cwV 1 X.2.2.2.2.1 gL_law_X11_victims rfl rfl rfl (by decide +kernel) ⟨Nat.le_of_ble_eq_true rfl, Nat.le_of_ble_eq_true rfl⟩) (cw_recv h1) (fun sz => fc_victims l D cA g hc AC V PK PI (xs (6 * i + 1)) V' PK' PI' r hg sz w1 h1) rfl rfl (Nat.le_of_ble_eq_true rfl) dL_law_798 ⟨by show _ + _ ≤ 600000; omega, by show _ + _ ≤ 7302250; omega⟩ (fun w3 h3 => ?_)
  refine z_aload_n X dL_law_801 rfl 2 rfl ?_
  refine z_aload_n X dL_law_802 rfl 0 rfl ?_
  refine z_iload_n X dL_law_803 rfl 3 rfl ?_
  refine z_iconst (v := (1 : Int32)) X dL_law_804 (by decide) ?_
  refine z_iadd X dL_law_805 ?_
  refine z_nm (y := nI (6 * i + 1)) (nI_add (6 * i) 1).symm ?_
  refine z_sld X hX hbl hbA (k := 6 * i + 1) (by omega) (by omega) dL_law_806 ?_
  refine z_perm List.perm_append_comm ?_
  refine z_LC (As := [.int (xs (6 * i + 1))]) (rest := [.int r]) (rv := r) (C := RX12) (mc := 0) (ms := 0) X Y (cwV 1 X.2.2.2.2.1 gL_law_X12_victims rfl rfl rfl (by decide +kernel) ⟨Nat.le_of_ble_eq_true rfl, Nat.le_of_ble_eq_true rfl⟩) (mw_recv h2) (fun sz => fm_victims l D cA g hm am M (xs (6 * i + 1)) M' r hh sz w2 h2) rfl rfl (Nat.le_of_ble_eq_true rfl) dL_law_807 ⟨by show _ + _ ≤ 600000; omega, by show _ + _ ≤ 7302250; omega⟩ (fun w4 h4 => ?_)
  refine z_perm List.perm_append_comm ?_
  refine z_icmp_eq (tgt := 1157) X dL_law_810 (by decide) (fun _ => ?_) (fun h => absurd rfl h)
  exact z_widen (by omega) (by omega) (KT V' PK' PI' M' w3 w4 h3 h4 hR')
set_option maxHeartbeats 4000000 in
set_option maxRecDepth 100000 in
theorem lc_upTo {p : Program} {l : Launch} {e : Env} {s : State} {m : MethodId} {args : Array Value} {below : List Frame} {meth : Method} {c : Code} {D : va_G} {cA : Nat → ClassId} {g : Nat → Nat} {A : Nat → Prop} {Q : State → Prop} (X : ZC p s m args meth c code 4 RL wsL_law D cA g A) (Y : ny s) {b L : Nat} {xs : Nat → Int32} (hX : va_X b L xs s s.heap) (hbl : b < s.heap.size) (hbA : ¬ A b) (hL : L ≤ 3072) {Rel : RelT} {hc hm : Nat} {AC : Nat → Nat → Nat} {am : Nat → Nat} (i : Nat) (hi : 6 * i + 6 ≤ L) (ST : St_upTo Rel) (V : Nat → Ob) (PK PI : PV) (M : Ob) (w1 w2 : va_W) (h1 : CW cA hc AC V PK PI w1) (h2 : MW cA hm am M w2) (hR : Rel V PK PI M) (KT : ∀ (V : Nat → Ob) (PK PI : PV) (M : Ob) (w1 w2 : va_W), CW cA hc AC V PK PI w1 → MW cA hm am M w2 → Rel V PK PI M → ZW p l e room_1 s m args below meth c D A 4 (95 + 28 * (i + 1)) (38338 + 823 * (i + 1)) Q (w1 ++ w2) [(0, .ref b), (1, .ref hc), (2, .ref hm), (3, .int (nI (6 * i)))] 1157 []) : ZW p l e room_1 s m args below meth c D A 4 (95 + 28 * i) (38338 + 823 * i) Q (w1 ++ w2) [(0, .ref b), (1, .ref hc), (2, .ref hm), (3, .int (nI (6 * i)))] 815 [] := by
  obtain ⟨V', PK', PI', M', r, hg, hh, hR'⟩ := ST V PK PI M (xs (6 * i + 1)) hR
  refine z_aload_n X dL_law_815 rfl 1 rfl ?_
  refine z_aload_n X dL_law_816 rfl 0 rfl ?_
  refine z_iload_n X dL_law_817 rfl 3 rfl ?_
  refine z_iconst (v := (1 : Int32)) X dL_law_818 (by decide) ?_
  refine z_iadd X dL_law_819 ?_
  refine z_nm (y := nI (6 * i + 1)) (nI_add (6 * i) 1).symm ?_
  refine z_sld X hX hbl hbA (k := 6 * i + 1) (by omega) (by omega) dL_law_820 ?_
  refine z_LC (As := [.int (xs (6 * i + 1))]) (rest := []) (rv := r) (C := RX11) (mc := 0) (ms := 0) X Y (cwV 1 X.2.2.2.2.1 gL_law_X11_upTo rfl rfl rfl (by decide +kernel) ⟨Nat.le_of_ble_eq_true rfl, Nat.le_of_ble_eq_true rfl⟩) (cw_recv h1) (fun sz => fc_upTo l D cA g hc AC V PK PI (xs (6 * i + 1)) V' PK' PI' r hg sz w1 h1) rfl rfl (Nat.le_of_ble_eq_true rfl) dL_law_821 ⟨by show _ + _ ≤ 600000; omega, by show _ + _ ≤ 7302250; omega⟩ (fun w3 h3 => ?_)
  refine z_aload_n X dL_law_824 rfl 2 rfl ?_
  refine z_aload_n X dL_law_825 rfl 0 rfl ?_
  refine z_iload_n X dL_law_826 rfl 3 rfl ?_
  refine z_iconst (v := (1 : Int32)) X dL_law_827 (by decide) ?_
  refine z_iadd X dL_law_828 ?_
  refine z_nm (y := nI (6 * i + 1)) (nI_add (6 * i) 1).symm ?_
  refine z_sld X hX hbl hbA (k := 6 * i + 1) (by omega) (by omega) dL_law_829 ?_
  refine z_perm List.perm_append_comm ?_
  refine z_LC (As := [.int (xs (6 * i + 1))]) (rest := [.int r]) (rv := r) (C := RX12) (mc := 0) (ms := 0) X Y (cwV 1 X.2.2.2.2.1 gL_law_X12_upTo rfl rfl rfl (by decide +kernel) ⟨Nat.le_of_ble_eq_true rfl, Nat.le_of_ble_eq_true rfl⟩) (mw_recv h2) (fun sz => fm_upTo l D cA g hm am M (xs (6 * i + 1)) M' r hh sz w2 h2) rfl rfl (Nat.le_of_ble_eq_true rfl) dL_law_830 ⟨by show _ + _ ≤ 600000; omega, by show _ + _ ≤ 7302250; omega⟩ (fun w4 h4 => ?_)
  refine z_perm List.perm_append_comm ?_
  refine z_icmp_eq (tgt := 1157) X dL_law_833 (by decide) (fun _ => ?_) (fun h => absurd rfl h)
  exact z_widen (by omega) (by omega) (KT V' PK' PI' M' w3 w4 h3 h4 hR')
set_option maxHeartbeats 4000000 in
set_option maxRecDepth 100000 in
theorem lc_curve {p : Program} {l : Launch} {e : Env} {s : State} {m : MethodId} {args : Array Value} {below : List Frame} {meth : Method} {c : Code} {D : va_G} {cA : Nat → ClassId} {g : Nat → Nat} {A : Nat → Prop} {Q : State → Prop} (X : ZC p s m args meth c code 4 RL wsL_law D cA g A) (Y : ny s) {b L : Nat} {xs : Nat → Int32} (hX : va_X b L xs s s.heap) (hbl : b < s.heap.size) (hbA : ¬ A b) (hL : L ≤ 3072) {Rel : RelT} {hc hm : Nat} {AC : Nat → Nat → Nat} {am : Nat → Nat} (i : Nat) (hi : 6 * i + 6 ≤ L) (ST : St_curve Rel) (V : Nat → Ob) (PK PI : PV) (M : Ob) (w1 w2 : va_W) (h1 : CW cA hc AC V PK PI w1) (h2 : MW cA hm am M w2) (hR : Rel V PK PI M) (KT : ∀ (V : Nat → Ob) (PK PI : PV) (M : Ob) (w1 w2 : va_W), CW cA hc AC V PK PI w1 → MW cA hm am M w2 → Rel V PK PI M → ZW p l e room_1 s m args below meth c D A 4 (95 + 28 * (i + 1)) (38338 + 823 * (i + 1)) Q (w1 ++ w2) [(0, .ref b), (1, .ref hc), (2, .ref hm), (3, .int (nI (6 * i)))] 1157 []) : ZW p l e room_1 s m args below meth c D A 4 (95 + 28 * i) (38338 + 823 * i) Q (w1 ++ w2) [(0, .ref b), (1, .ref hc), (2, .ref hm), (3, .int (nI (6 * i)))] 838 [] := by
  obtain ⟨V', PK', PI', M', r, hg, hh, hR'⟩ := ST V PK PI M (xs (6 * i + 1)) (xs (6 * i + 2)) hR
  refine z_aload_n X dL_law_838 rfl 1 rfl ?_
  refine z_aload_n X dL_law_839 rfl 0 rfl ?_
  refine z_iload_n X dL_law_840 rfl 3 rfl ?_
  refine z_iconst (v := (1 : Int32)) X dL_law_841 (by decide) ?_
  refine z_iadd X dL_law_842 ?_
  refine z_nm (y := nI (6 * i + 1)) (nI_add (6 * i) 1).symm ?_
  refine z_sld X hX hbl hbA (k := 6 * i + 1) (by omega) (by omega) dL_law_843 ?_
  refine z_aload_n X dL_law_844 rfl 0 rfl ?_
  refine z_iload_n X dL_law_845 rfl 3 rfl ?_
  refine z_iconst (v := (2 : Int32)) X dL_law_846 (by decide) ?_
  refine z_iadd X dL_law_847 ?_
  refine z_nm (y := nI (6 * i + 2)) (nI_add (6 * i) 2).symm ?_
  refine z_sld X hX hbl hbA (k := 6 * i + 2) (by omega) (by omega) dL_law_848 ?_
  refine z_LC (As := [.int (xs (6 * i + 1)), .int (xs (6 * i + 2))]) (rest := []) (rv := r) (C := RX11) (mc := 0) (ms := 0) X Y (cwV 2 X.2.2.2.2.1 gL_law_X11_curve rfl rfl rfl (by decide +kernel) ⟨Nat.le_of_ble_eq_true rfl, Nat.le_of_ble_eq_true rfl⟩) (cw_recv h1) (fun sz => fc_curve l D cA g hc AC V PK PI (xs (6 * i + 1)) (xs (6 * i + 2)) V' PK' PI' r hg sz w1 h1) rfl rfl (Nat.le_of_ble_eq_true rfl) dL_law_849 ⟨by show _ + _ ≤ 600000; omega, by show _ + _ ≤ 7302250; omega⟩ (fun w3 h3 => ?_)
  refine z_aload_n X dL_law_852 rfl 2 rfl ?_
  refine z_aload_n X dL_law_853 rfl 0 rfl ?_
  refine z_iload_n X dL_law_854 rfl 3 rfl ?_
  refine z_iconst (v := (1 : Int32)) X dL_law_855 (by decide) ?_
  refine z_iadd X dL_law_856 ?_
  refine z_nm (y := nI (6 * i + 1)) (nI_add (6 * i) 1).symm ?_
  refine z_sld X hX hbl hbA (k := 6 * i + 1) (by omega) (by omega) dL_law_857 ?_
  refine z_aload_n X dL_law_858 rfl 0 rfl ?_
  refine z_iload_n X dL_law_859 rfl 3 rfl ?_
  refine z_iconst (v := (2 : Int32)) X dL_law_860 (by decide) ?_
  refine z_iadd X dL_law_861 ?_
  refine z_nm (y := nI (6 * i + 2)) (nI_add (6 * i) 2).symm ?_
  refine z_sld X hX hbl hbA (k := 6 * i + 2) (by omega) (by omega) dL_law_862 ?_
  refine z_perm List.perm_append_comm ?_
  refine z_LC (As := [.int (xs (6 * i + 1)), .int (xs (6 * i + 2))]) (rest := [.int r]) (rv := r) (C := RX12) (mc := 0) (ms := 0) X Y (cwV 2 X.2.2.2.2.1 gL_law_X12_curve rfl rfl rfl (by decide +kernel) ⟨Nat.le_of_ble_eq_true rfl, Nat.le_of_ble_eq_true rfl⟩) (mw_recv h2) (fun sz => fm_curve l D cA g hm am M (xs (6 * i + 1)) (xs (6 * i + 2)) M' r hh sz w2 h2) rfl rfl (Nat.le_of_ble_eq_true rfl) dL_law_863 ⟨by show _ + _ ≤ 600000; omega, by show _ + _ ≤ 7302250; omega⟩ (fun w4 h4 => ?_)
  refine z_perm List.perm_append_comm ?_
  refine z_icmp_eq (tgt := 1157) X dL_law_866 (by decide) (fun _ => ?_) (fun h => absurd rfl h)
  exact z_widen (by omega) (by omega) (KT V' PK' PI' M' w3 w4 h3 h4 hR')
set_option maxHeartbeats 4000000 in
set_option maxRecDepth 100000 in
theorem lc_spent {p : Program} {l : Launch} {e : Env} {s : State} {m : MethodId} {args : Array Value} {below : List Frame} {meth : Method} {c : Code} {D : va_G} {cA : Nat → ClassId} {g : Nat → Nat} {A : Nat → Prop} {Q : State → Prop} (X : ZC p s m args meth c code 4 RL wsL_law D cA g A) (Y : ny s) {b L : Nat} {xs : Nat → Int32} (hX : va_X b L xs s s.heap) (hbl : b < s.heap.size) (hbA : ¬ A b) (hL : L ≤ 3072) {Rel : RelT} {hc hm : Nat} {AC : Nat → Nat → Nat} {am : Nat → Nat} (i : Nat) (hi : 6 * i + 6 ≤ L) (ST : St_spent Rel) (V : Nat → Ob) (PK PI : PV) (M : Ob) (w1 w2 : va_W) (h1 : CW cA hc AC V PK PI w1) (h2 : MW cA hm am M w2) (hR : Rel V PK PI M) (KT : ∀ (V : Nat → Ob) (PK PI : PV) (M : Ob) (w1 w2 : va_W), CW cA hc AC V PK PI w1 → MW cA hm am M w2 → Rel V PK PI M → ZW p l e room_1 s m args below meth c D A 4 (95 + 28 * (i + 1)) (38338 + 823 * (i + 1)) Q (w1 ++ w2) [(0, .ref b), (1, .ref hc), (2, .ref hm), (3, .int (nI (6 * i)))] 1157 []) : ZW p l e room_1 s m args below meth c D A 4 (95 + 28 * i) (38338 + 823 * i) Q (w1 ++ w2) [(0, .ref b), (1, .ref hc), (2, .ref hm), (3, .int (nI (6 * i)))] 871 [] := by
  obtain ⟨V', PK', PI', M', r, hg, hh, hR'⟩ := ST V PK PI M (xs (6 * i + 1)) (xs (6 * i + 2)) hR
  refine z_aload_n X dL_law_871 rfl 1 rfl ?_
  refine z_aload_n X dL_law_872 rfl 0 rfl ?_
  refine z_iload_n X dL_law_873 rfl 3 rfl ?_
  refine z_iconst (v := (1 : Int32)) X dL_law_874 (by decide) ?_
  refine z_iadd X dL_law_875 ?_
  refine z_nm (y := nI (6 * i + 1)) (nI_add (6 * i) 1).symm ?_
  refine z_sld X hX hbl hbA (k := 6 * i + 1) (by omega) (by omega) dL_law_876 ?_
  refine z_aload_n X dL_law_877 rfl 0 rfl ?_
  refine z_iload_n X dL_law_878 rfl 3 rfl ?_
  refine z_iconst (v := (2 : Int32)) X dL_law_879 (by decide) ?_
  refine z_iadd X dL_law_880 ?_
  refine z_nm (y := nI (6 * i + 2)) (nI_add (6 * i) 2).symm ?_
  refine z_sld X hX hbl hbA (k := 6 * i + 2) (by omega) (by omega) dL_law_881 ?_
  refine z_LC (As := [.int (xs (6 * i + 1)), .int (xs (6 * i + 2))]) (rest := []) (rv := r) (C := RX11) (mc := 0) (ms := 0) X Y (cwV 2 X.2.2.2.2.1 gL_law_X11_spent rfl rfl rfl (by decide +kernel) ⟨Nat.le_of_ble_eq_true rfl, Nat.le_of_ble_eq_true rfl⟩) (cw_recv h1) (fun sz => fc_spent l D cA g hc AC V PK PI (xs (6 * i + 1)) (xs (6 * i + 2)) V' PK' PI' r hg sz w1 h1) rfl rfl (Nat.le_of_ble_eq_true rfl) dL_law_882 ⟨by show _ + _ ≤ 600000; omega, by show _ + _ ≤ 7302250; omega⟩ (fun w3 h3 => ?_)
  refine z_aload_n X dL_law_885 rfl 2 rfl ?_
  refine z_aload_n X dL_law_886 rfl 0 rfl ?_
  refine z_iload_n X dL_law_887 rfl 3 rfl ?_
  refine z_iconst (v := (1 : Int32)) X dL_law_888 (by decide) ?_
  refine z_iadd X dL_law_889 ?_
  refine z_nm (y := nI (6 * i + 1)) (nI_add (6 * i) 1).symm ?_
  refine z_sld X hX hbl hbA (k := 6 * i + 1) (by omega) (by omega) dL_law_890 ?_
  refine z_aload_n X dL_law_891 rfl 0 rfl ?_
  refine z_iload_n X dL_law_892 rfl 3 rfl ?_
  refine z_iconst (v := (2 : Int32)) X dL_law_893 (by decide) ?_
  refine z_iadd X dL_law_894 ?_
  refine z_nm (y := nI (6 * i + 2)) (nI_add (6 * i) 2).symm ?_
  refine z_sld X hX hbl hbA (k := 6 * i + 2) (by omega) (by omega) dL_law_895 ?_
  refine z_perm List.perm_append_comm ?_
  refine z_LC (As := [.int (xs (6 * i + 1)), .int (xs (6 * i + 2))]) (rest := [.int r]) (rv := r) (C := RX12) (mc := 0) (ms := 0) X Y (cwV 2 X.2.2.2.2.1 gL_law_X12_spent rfl rfl rfl (by decide +kernel) ⟨Nat.le_of_ble_eq_true rfl, Nat.le_of_ble_eq_true rfl⟩) (mw_recv h2) (fun sz => fm_spent l D cA g hm am M (xs (6 * i + 1)) (xs (6 * i + 2)) M' r hh sz w2 h2) rfl rfl (Nat.le_of_ble_eq_true rfl) dL_law_896 ⟨by show _ + _ ≤ 600000; omega, by show _ + _ ≤ 7302250; omega⟩ (fun w4 h4 => ?_)
  refine z_perm List.perm_append_comm ?_
  refine z_icmp_eq (tgt := 1157) X dL_law_899 (by decide) (fun _ => ?_) (fun h => absurd rfl h)
  exact z_widen (by omega) (by omega) (KT V' PK' PI' M' w3 w4 h3 h4 hR')
