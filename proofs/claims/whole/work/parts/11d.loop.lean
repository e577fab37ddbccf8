set_option maxHeartbeats 4000000 in
set_option maxRecDepth 100000 in
theorem lc_picture {p : Program} {l : Launch} {e : Env} {s : State} {m : MethodId} {args : Array Value} {below : List Frame} {meth : Method} {c : Code} {D : va_G} {cA : Nat → ClassId} {g : Nat → Nat} {A : Nat → Prop} {Q : State → Prop} (X : ZC p s m args meth c code 4 RL wsL_law D cA g A) (Y : ny s) {b L : Nat} {xs : Nat → Int32} (hX : va_X b L xs s s.heap) (hbl : b < s.heap.size) (hbA : ¬ A b) (hL : L ≤ 3072) {Rel : RelT} {hc hm : Nat} {AC : Nat → Nat → Nat} {am : Nat → Nat} (i : Nat) (hi : 6 * i + 6 ≤ L) (ST : St_picture Rel) (V : Nat → Ob) (PK PI : PV) (M : Ob) (w1 w2 : va_W) (h1 : CW cA hc AC V PK PI w1) (h2 : MW cA hm am M w2) (hR : Rel V PK PI M) (KT : ∀ (V : Nat → Ob) (PK PI : PV) (M : Ob) (w1 w2 : va_W), CW cA hc AC V PK PI w1 → MW cA hm am M w2 → Rel V PK PI M → ZW p l e room_1 s m args below meth c D A 4 (95 + 28 * (i + 1)) (38338 + 823 * (i + 1)) Q (w1 ++ w2) [(0, .ref b), (1, .ref hc), (2, .ref hm), (3, .int (nI (6 * i)))] 1157 []) : ZW p l e room_1 s m args below meth c D A 4 (95 + 28 * i) (38338 + 823 * i) Q (w1 ++ w2) [(0, .ref b), (1, .ref hc), (2, .ref hm), (3, .int (nI (6 * i)))] 904 [] := by
  obtain ⟨V', PK', PI', M', r, hg, hh, hR'⟩ := ST V PK PI M  hR
  refine z_aload_n X dL_law_904 rfl 1 rfl ?_
  refine z_LC (As := []) (rest := []) (rv := r) (C := RX11) (mc := 0) (ms := 0) X Y (cwV 0 X.2.2.2.2.1 gL_law_X11_picture rfl rfl rfl (by decide +kernel) ⟨Nat.le_of_ble_eq_true rfl, Nat.le_of_ble_eq_true rfl⟩) (cw_recv h1) (fun sz => fc_picture l D cA g hc AC V PK PI  V' PK' PI' r hg sz w1 h1) rfl rfl (Nat.le_of_ble_eq_true rfl) dL_law_905 ⟨by show _ + _ ≤ 600000; omega, by show _ + _ ≤ 7302250; omega⟩ (fun w3 h3 => ?_)
  refine z_aload_n X dL_law_908 rfl 2 rfl ?_
  refine z_perm List.perm_append_comm ?_
  refine z_LC (As := []) (rest := [.int r]) (rv := r) (C := RX12) (mc := 0) (ms := 0) X Y (cwV 0 X.2.2.2.2.1 gL_law_X12_picture rfl rfl rfl (by decide +kernel) ⟨Nat.le_of_ble_eq_true rfl, Nat.le_of_ble_eq_true rfl⟩) (mw_recv h2) (fun sz => fm_picture l D cA g hm am M  M' r hh sz w2 h2) rfl rfl (Nat.le_of_ble_eq_true rfl) dL_law_909 ⟨by show _ + _ ≤ 600000; omega, by show _ + _ ≤ 7302250; omega⟩ (fun w4 h4 => ?_)
  refine z_perm List.perm_append_comm ?_
  refine z_icmp_eq (tgt := 1157) X dL_law_912 (by decide) (fun _ => ?_) (fun h => absurd rfl h)
  exact z_widen (by omega) (by omega) (KT V' PK' PI' M' w3 w4 h3 h4 hR')
set_option maxHeartbeats 4000000 in
set_option maxRecDepth 100000 in
theorem lc_byteAt {p : Program} {l : Launch} {e : Env} {s : State} {m : MethodId} {args : Array Value} {below : List Frame} {meth : Method} {c : Code} {D : va_G} {cA : Nat → ClassId} {g : Nat → Nat} {A : Nat → Prop} {Q : State → Prop} (X : ZC p s m args meth c code 4 RL wsL_law D cA g A) (Y : ny s) {b L : Nat} {xs : Nat → Int32} (hX : va_X b L xs s s.heap) (hbl : b < s.heap.size) (hbA : ¬ A b) (hL : L ≤ 3072) {Rel : RelT} {hc hm : Nat} {AC : Nat → Nat → Nat} {am : Nat → Nat} (i : Nat) (hi : 6 * i + 6 ≤ L) (ST : St_byteAt Rel) (V : Nat → Ob) (PK PI : PV) (M : Ob) (w1 w2 : va_W) (h1 : CW cA hc AC V PK PI w1) (h2 : MW cA hm am M w2) (hR : Rel V PK PI M) (KT : ∀ (V : Nat → Ob) (PK PI : PV) (M : Ob) (w1 w2 : va_W), CW cA hc AC V PK PI w1 → MW cA hm am M w2 → Rel V PK PI M → ZW p l e room_1 s m args below meth c D A 4 (95 + 28 * (i + 1)) (38338 + 823 * (i + 1)) Q (w1 ++ w2) [(0, .ref b), (1, .ref hc), (2, .ref hm), (3, .int (nI (6 * i)))] 1157 []) : ZW p l e room_1 s m args below meth c D A 4 (95 + 28 * i) (38338 + 823 * i) Q (w1 ++ w2) [(0, .ref b), (1, .ref hc), (2, .ref hm), (3, .int (nI (6 * i)))] 917 [] := by
  obtain ⟨V', PK', PI', M', r, hg, hh, hR'⟩ := ST V PK PI M (xs (6 * i + 1)) hR
  refine z_aload_n X dL_law_917 rfl 1 rfl ?_
  refine z_aload_n X dL_law_918 rfl 0 rfl ?_
  refine z_iload_n X dL_law_919 rfl 3 rfl ?_
  refine z_iconst (v := (1 : Int32)) X dL_law_920 (by decide) ?_
  refine z_iadd X dL_law_921 ?_
  refine z_nm (y := nI (6 * i + 1)) (nI_add (6 * i) 1).symm ?_
  refine z_sld X hX hbl hbA (k := 6 * i + 1) (by omega) (by omega) dL_law_922 ?_
  refine z_LC (As := [.int (xs (6 * i + 1))]) (rest := []) (rv := r) (C := RX11) (mc := 0) (ms := 0) X Y (cwV 1 X.2.2.2.2.1 gL_law_X11_byteAt rfl rfl rfl (by decide +kernel) ⟨Nat.le_of_ble_eq_true rfl, Nat.le_of_ble_eq_true rfl⟩) (cw_recv h1) (fun sz => fc_byteAt l D cA g hc AC V PK PI (xs (6 * i + 1)) V' PK' PI' r hg sz w1 h1) rfl rfl (Nat.le_of_ble_eq_true rfl) dL_law_923 ⟨by show _ + _ ≤ 600000; omega, by show _ + _ ≤ 7302250; omega⟩ (fun w3 h3 => ?_)
  refine z_aload_n X dL_law_926 rfl 2 rfl ?_
  refine z_aload_n X dL_law_927 rfl 0 rfl ?_
  refine z_iload_n X dL_law_928 rfl 3 rfl ?_
  refine z_iconst (v := (1 : Int32)) X dL_law_929 (by decide) ?_
  refine z_iadd X dL_law_930 ?_
  refine z_nm (y := nI (6 * i + 1)) (nI_add (6 * i) 1).symm ?_
  refine z_sld X hX hbl hbA (k := 6 * i + 1) (by omega) (by omega) dL_law_931 ?_
  refine z_perm List.perm_append_comm ?_
  refine z_LC (As := [.int (xs (6 * i + 1))]) (rest := [.int r]) (rv := r) (C := RX12) (mc := 0) (ms := 0) X Y (cwV 1 X.2.2.2.2.1 gL_law_X12_byteAt rfl rfl rfl (by decide +kernel) ⟨Nat.le_of_ble_eq_true rfl, Nat.le_of_ble_eq_true rfl⟩) (mw_recv h2) (fun sz => fm_byteAt l D cA g hm am M (xs (6 * i + 1)) M' r hh sz w2 h2) rfl rfl (Nat.le_of_ble_eq_true rfl) dL_law_932 ⟨by show _ + _ ≤ 600000; omega, by show _ + _ ≤ 7302250; omega⟩ (fun w4 h4 => ?_)
  refine z_perm List.perm_append_comm ?_
  refine z_icmp_eq (tgt := 1157) X dL_law_935 (by decide) (fun _ => ?_) (fun h => absurd rfl h)
  exact z_widen (by omega) (by omega) (KT V' PK' PI' M' w3 w4 h3 h4 hR')
set_option maxHeartbeats 4000000 in
set_option maxRecDepth 100000 in
theorem lc_ratio {p : Program} {l : Launch} {e : Env} {s : State} {m : MethodId} {args : Array Value} {below : List Frame} {meth : Method} {c : Code} {D : va_G} {cA : Nat → ClassId} {g : Nat → Nat} {A : Nat → Prop} {Q : State → Prop} (X : ZC p s m args meth c code 4 RL wsL_law D cA g A) (Y : ny s) {b L : Nat} {xs : Nat → Int32} (hX : va_X b L xs s s.heap) (hbl : b < s.heap.size) (hbA : ¬ A b) (hL : L ≤ 3072) {Rel : RelT} {hc hm : Nat} {AC : Nat → Nat → Nat} {am : Nat → Nat} (i : Nat) (hi : 6 * i + 6 ≤ L) (ST : St_ratio Rel) (V : Nat → Ob) (PK PI : PV) (M : Ob) (w1 w2 : va_W) (h1 : CW cA hc AC V PK PI w1) (h2 : MW cA hm am M w2) (hR : Rel V PK PI M) (KT : ∀ (V : Nat → Ob) (PK PI : PV) (M : Ob) (w1 w2 : va_W), CW cA hc AC V PK PI w1 → MW cA hm am M w2 → Rel V PK PI M → ZW p l e room_1 s m args below meth c D A 4 (95 + 28 * (i + 1)) (38338 + 823 * (i + 1)) Q (w1 ++ w2) [(0, .ref b), (1, .ref hc), (2, .ref hm), (3, .int (nI (6 * i)))] 1157 []) : ZW p l e room_1 s m args below meth c D A 4 (95 + 28 * i) (38338 + 823 * i) Q (w1 ++ w2) [(0, .ref b), (1, .ref hc), (2, .ref hm), (3, .int (nI (6 * i)))] 940 [] := by
  obtain ⟨V', PK', PI', M', r, hg, hh, hR'⟩ := ST V PK PI M  hR
  refine z_aload_n X dL_law_940 rfl 1 rfl ?_
  refine z_LC (As := []) (rest := []) (rv := r) (C := RX11) (mc := 0) (ms := 0) X Y (cwV 0 X.2.2.2.2.1 gL_law_X11_ratio rfl rfl rfl (by decide +kernel) ⟨Nat.le_of_ble_eq_true rfl, Nat.le_of_ble_eq_true rfl⟩) (cw_recv h1) (fun sz => fc_ratio l D cA g hc AC V PK PI  V' PK' PI' r hg sz w1 h1) rfl rfl (Nat.le_of_ble_eq_true rfl) dL_law_941 ⟨by show _ + _ ≤ 600000; omega, by show _ + _ ≤ 7302250; omega⟩ (fun w3 h3 => ?_)
  refine z_aload_n X dL_law_944 rfl 2 rfl ?_
  refine z_perm List.perm_append_comm ?_
  refine z_LC (As := []) (rest := [.int r]) (rv := r) (C := RX12) (mc := 0) (ms := 0) X Y (cwV 0 X.2.2.2.2.1 gL_law_X12_ratio rfl rfl rfl (by decide +kernel) ⟨Nat.le_of_ble_eq_true rfl, Nat.le_of_ble_eq_true rfl⟩) (mw_recv h2) (fun sz => fm_ratio l D cA g hm am M  M' r hh sz w2 h2) rfl rfl (Nat.le_of_ble_eq_true rfl) dL_law_945 ⟨by show _ + _ ≤ 600000; omega, by show _ + _ ≤ 7302250; omega⟩ (fun w4 h4 => ?_)
  refine z_perm List.perm_append_comm ?_
  refine z_icmp_eq (tgt := 1157) X dL_law_948 (by decide) (fun _ => ?_) (fun h => absurd rfl h)
  exact z_widen (by omega) (by omega) (KT V' PK' PI' M' w3 w4 h3 h4 hR')
set_option maxHeartbeats 4000000 in
set_option maxRecDepth 100000 in
theorem lc_rides {p : Program} {l : Launch} {e : Env} {s : State} {m : MethodId} {args : Array Value} {below : List Frame} {meth : Method} {c : Code} {D : va_G} {cA : Nat → ClassId} {g : Nat → Nat} {A : Nat → Prop} {Q : State → Prop} (X : ZC p s m args meth c code 4 RL wsL_law D cA g A) (Y : ny s) {b L : Nat} {xs : Nat → Int32} (hX : va_X b L xs s s.heap) (hbl : b < s.heap.size) (hbA : ¬ A b) (hL : L ≤ 3072) {Rel : RelT} {hc hm : Nat} {AC : Nat → Nat → Nat} {am : Nat → Nat} (i : Nat) (hi : 6 * i + 6 ≤ L) (ST : St_rides Rel) (V : Nat → Ob) (PK PI : PV) (M : Ob) (w1 w2 : va_W) (h1 : CW cA hc AC V PK PI w1) (h2 : MW cA hm am M w2) (hR : Rel V PK PI M) (KT : ∀ (V : Nat → Ob) (PK PI : PV) (M : Ob) (w1 w2 : va_W), CW cA hc AC V PK PI w1 → MW cA hm am M w2 → Rel V PK PI M → ZW p l e room_1 s m args below meth c D A 4 (95 + 28 * (i + 1)) (38338 + 823 * (i + 1)) Q (w1 ++ w2) [(0, .ref b), (1, .ref hc), (2, .ref hm), (3, .int (nI (6 * i)))] 1157 []) : ZW p l e room_1 s m args below meth c D A 4 (95 + 28 * i) (38338 + 823 * i) Q (w1 ++ w2) [(0, .ref b), (1, .ref hc), (2, .ref hm), (3, .int (nI (6 * i)))] 953 [] := by
  obtain ⟨V', PK', PI', M', r, hg, hh, hR'⟩ := ST V PK PI M (xs (6 * i + 1)) (xs (6 * i + 2)) hR
  refine z_aload_n X dL_law_953 rfl 1 rfl ?_
  refine z_aload_n X dL_law_954 rfl 0 rfl ?_
  refine z_iload_n X dL_law_955 rfl 3 rfl ?_
  refine z_iconst (v := (1 : Int32)) X dL_law_956 (by decide) ?_
  refine z_iadd X dL_law_957 ?_
  refine z_nm (y := nI (6 * i + 1)) (nI_add (6 * i) 1).symm ?_
  refine z_sld X hX hbl hbA (k := 6 * i + 1) (by omega) (by omega) dL_law_958 ?_
  refine z_aload_n X dL_law_959 rfl 0 rfl ?_
  refine z_iload_n X dL_law_960 rfl 3 rfl ?_
  refine z_iconst (v := (2 : Int32)) X dL_law_961 (by decide) ?_
  refine z_iadd X dL_law_962 ?_
  refine z_nm (y := nI (6 * i + 2)) (nI_add (6 * i) 2).symm ?_
  refine z_sld X hX hbl hbA (k := 6 * i + 2) (by omega) (by omega) dL_law_963 ?_
  refine z_LC (As := [.int (xs (6 * i + 1)), .int (xs (6 * i + 2))]) (rest := []) (rv := r) (C := RX11) (mc := 0) (ms := 0) X Y (cwV 2 X.2.2.2.2.1 gL_law_X11_rides rfl rfl rfl (by decide +kernel) ⟨Nat.le_of_ble_eq_true rfl, Nat.le_of_ble_eq_true rfl⟩) (cw_recv h1) (fun sz => fc_rides l D cA g hc AC V PK PI (xs (6 * i + 1)) (xs (6 * i + 2)) V' PK' PI' r hg sz w1 h1) rfl rfl (Nat.le_of_ble_eq_true rfl) dL_law_964 ⟨by show _ + _ ≤ 600000; omega, by show _ + _ ≤ 7302250; omega⟩ (fun w3 h3 => ?_)
  refine z_aload_n X dL_law_967 rfl 2 rfl ?_
  refine z_aload_n X dL_law_968 rfl 0 rfl ?_
  refine z_iload_n X dL_law_969 rfl 3 rfl ?_
  refine z_iconst (v := (1 : Int32)) X dL_law_970 (by decide) ?_
  refine z_iadd X dL_law_971 ?_
  refine z_nm (y := nI (6 * i + 1)) (nI_add (6 * i) 1).symm ?_
  refine z_sld X hX hbl hbA (k := 6 * i + 1) (by omega) (by omega) dL_law_972 ?_
  refine z_aload_n X dL_law_973 rfl 0 rfl ?_
  refine z_iload_n X dL_law_974 rfl 3 rfl ?_
  refine z_iconst (v := (2 : Int32)) X dL_law_975 (by decide) ?_
  refine z_iadd X dL_law_976 ?_
  refine z_nm (y := nI (6 * i + 2)) (nI_add (6 * i) 2).symm ?_
  refine z_sld X hX hbl hbA (k := 6 * i + 2) (by omega) (by omega) dL_law_977 ?_
  refine z_perm List.perm_append_comm ?_
  refine z_LC (As := [.int (xs (6 * i + 1)), .int (xs (6 * i + 2))]) (rest := [.int r]) (rv := r) (C := RX12) (mc := 0) (ms := 0) X Y (cwV 2 X.2.2.2.2.1 gL_law_X12_rides rfl rfl rfl (by decide +kernel) ⟨Nat.le_of_ble_eq_true rfl, Nat.le_of_ble_eq_true rfl⟩) (mw_recv h2) (fun sz => fm_rides l D cA g hm am M (xs (6 * i + 1)) (xs (6 * i + 2)) M' r hh sz w2 h2) rfl rfl (Nat.le_of_ble_eq_true rfl) dL_law_978 ⟨by show _ + _ ≤ 600000; omega, by show _ + _ ≤ 7302250; omega⟩ (fun w4 h4 => ?_)
  refine z_perm List.perm_append_comm ?_
  refine z_icmp_eq (tgt := 1157) X dL_law_981 (by decide) (fun _ => ?_) (fun h => absurd rfl h)
  exact z_widen (by omega) (by omega) (KT V' PK' PI' M' w3 w4 h3 h4 hR')
set_option maxHeartbeats 4000000 in
set_option maxRecDepth 100000 in
theorem lc_ride {p : Program} {l : Launch} {e : Env} {s : State} {m : MethodId} {args : Array Value} {below : List Frame} {meth : Method} {c : Code} {D : va_G} {cA : Nat → ClassId} {g : Nat → Nat} {A : Nat → Prop} {Q : State → Prop} (X : ZC p s m args meth c code 4 RL wsL_law D cA g A) (Y : ny s) {b L : Nat} {xs : Nat → Int32} (hX : va_X b L xs s s.heap) (hbl : b < s.heap.size) (hbA : ¬ A b) (hL : L ≤ 3072) {Rel : RelT} {hc hm : Nat} {AC : Nat → Nat → Nat} {am : Nat → Nat} (i : Nat) (hi : 6 * i + 6 ≤ L) (ST : St_ride Rel) (V : Nat → Ob) (PK PI : PV) (M : Ob) (w1 w2 : va_W) (h1 : CW cA hc AC V PK PI w1) (h2 : MW cA hm am M w2) (hR : Rel V PK PI M) (KT : ∀ (V : Nat → Ob) (PK PI : PV) (M : Ob) (w1 w2 : va_W), CW cA hc AC V PK PI w1 → MW cA hm am M w2 → Rel V PK PI M → ZW p l e room_1 s m args below meth c D A 4 (95 + 28 * (i + 1)) (38338 + 823 * (i + 1)) Q (w1 ++ w2) [(0, .ref b), (1, .ref hc), (2, .ref hm), (3, .int (nI (6 * i)))] 1157 []) : ZW p l e room_1 s m args below meth c D A 4 (95 + 28 * i) (38338 + 823 * i) Q (w1 ++ w2) [(0, .ref b), (1, .ref hc), (2, .ref hm), (3, .int (nI (6 * i)))] 986 [] := by
  obtain ⟨V', PK', PI', M', r, hg, hh, hR'⟩ := ST V PK PI M (xs (6 * i + 1)) hR
  refine z_aload_n X dL_law_986 rfl 1 rfl ?_
  refine z_aload_n X dL_law_987 rfl 0 rfl ?_
  refine z_iload_n X dL_law_988 rfl 3 rfl ?_
  refine z_iconst (v := (1 : Int32)) X dL_law_989 (by decide) ?_
  refine z_iadd X dL_law_990 ?_
  refine z_nm (y := nI (6 * i + 1)) (nI_add (6 * i) 1).symm ?_
  refine z_sld X hX hbl hbA (k := 6 * i + 1) (by omega) (by omega) dL_law_991 ?_
  refine z_LC (As := [.int (xs (6 * i + 1))]) (rest := []) (rv := r) (C := RX11) (mc := 0) (ms := 0) X Y (cwV 1 X.2.2.2.2.1 gL_law_X11_ride rfl rfl rfl (by decide +kernel) ⟨Nat.le_of_ble_eq_true rfl, Nat.le_of_ble_eq_true rfl⟩) (cw_recv h1) (fun sz => fc_ride l D cA g hc AC V PK PI (xs (6 * i + 1)) V' PK' PI' r hg sz w1 h1) rfl rfl (Nat.le_of_ble_eq_true rfl) dL_law_992 ⟨by show _ + _ ≤ 600000; omega, by show _ + _ ≤ 7302250; omega⟩ (fun w3 h3 => ?_)
  refine z_aload_n X dL_law_995 rfl 2 rfl ?_
  refine z_aload_n X dL_law_996 rfl 0 rfl ?_
  refine z_iload_n X dL_law_997 rfl 3 rfl ?_
  refine z_iconst (v := (1 : Int32)) X dL_law_998 (by decide) ?_
  refine z_iadd X dL_law_999 ?_
  refine z_nm (y := nI (6 * i + 1)) (nI_add (6 * i) 1).symm ?_
  refine z_sld X hX hbl hbA (k := 6 * i + 1) (by omega) (by omega) dL_law_1000 ?_
  refine z_perm List.perm_append_comm ?_
  refine z_LC (As := [.int (xs (6 * i + 1))]) (rest := [.int r]) (rv := r) (C := RX12) (mc := 0) (ms := 0) X Y (cwV 1 X.2.2.2.2.1 gL_law_X12_ride rfl rfl rfl (by decide +kernel) ⟨Nat.le_of_ble_eq_true rfl, Nat.le_of_ble_eq_true rfl⟩) (mw_recv h2) (fun sz => fm_ride l D cA g hm am M (xs (6 * i + 1)) M' r hh sz w2 h2) rfl rfl (Nat.le_of_ble_eq_true rfl) dL_law_1001 ⟨by show _ + _ ≤ 600000; omega, by show _ + _ ≤ 7302250; omega⟩ (fun w4 h4 => ?_)
  refine z_perm List.perm_append_comm ?_
  refine z_icmp_eq (tgt := 1157) X dL_law_1004 (by decide) (fun _ => ?_) (fun h => absurd rfl h)
  exact z_widen (by omega) (by omega) (KT V' PK' PI' M' w3 w4 h3 h4 hR')
set_option maxHeartbeats 4000000 in
set_option maxRecDepth 100000 in
theorem lc_shift {p : Program} {l : Launch} {e : Env} {s : State} {m : MethodId} {args : Array Value} {below : List Frame} {meth : Method} {c : Code} {D : va_G} {cA : Nat → ClassId} {g : Nat → Nat} {A : Nat → Prop} {Q : State → Prop} (X : ZC p s m args meth c code 4 RL wsL_law D cA g A) (Y : ny s) {b L : Nat} {xs : Nat → Int32} (hX : va_X b L xs s s.heap) (hbl : b < s.heap.size) (hbA : ¬ A b) (hL : L ≤ 3072) {Rel : RelT} {hc hm : Nat} {AC : Nat → Nat → Nat} {am : Nat → Nat} (i : Nat) (hi : 6 * i + 6 ≤ L) (ST : St_shift Rel) (V : Nat → Ob) (PK PI : PV) (M : Ob) (w1 w2 : va_W) (h1 : CW cA hc AC V PK PI w1) (h2 : MW cA hm am M w2) (hR : Rel V PK PI M) (KT : ∀ (V : Nat → Ob) (PK PI : PV) (M : Ob) (w1 w2 : va_W), CW cA hc AC V PK PI w1 → MW cA hm am M w2 → Rel V PK PI M → ZW p l e room_1 s m args below meth c D A 4 (95 + 28 * (i + 1)) (38338 + 823 * (i + 1)) Q (w1 ++ w2) [(0, .ref b), (1, .ref hc), (2, .ref hm), (3, .int (nI (6 * i)))] 1157 []) : ZW p l e room_1 s m args below meth c D A 4 (95 + 28 * i) (38338 + 823 * i) Q (w1 ++ w2) [(0, .ref b), (1, .ref hc), (2, .ref hm), (3, .int (nI (6 * i)))] 1009 [] := by
  obtain ⟨V', PK', PI', M', r, hg, hh, hR'⟩ := ST V PK PI M (xs (6 * i + 1)) (xs (6 * i + 2)) hR
  refine z_aload_n X dL_law_1009 rfl 1 rfl ?_
  refine z_aload_n X dL_law_1010 rfl 0 rfl ?_
  refine z_iload_n X dL_law_1011 rfl 3 rfl ?_
  refine z_iconst (v := (1 : Int32)) X dL_law_1012 (by decide) ?_
  refine z_iadd X dL_law_1013 ?_
  refine z_nm (y := nI (6 * i + 1)) (nI_add (6 * i) 1).symm ?_
  refine z_sld X hX hbl hbA (k := 6 * i + 1) (by omega) (by omega) dL_law_1014 ?_
  refine z_aload_n X dL_law_1015 rfl 0 rfl ?_
  refine z_iload_n X dL_law_1016 rfl 3 rfl ?_
  refine z_iconst (v := (2 : Int32)) X dL_law_1017 (by decide) ?_
  refine z_iadd X dL_law_1018 ?_
  refine z_nm (y := nI (6 * i + 2)) (nI_add (6 * i) 2).symm ?_
  refine z_sld X hX hbl hbA (k := 6 * i + 2) (by omega) (by omega) dL_law_1019 ?_
  refine z_LC (As := [.int (xs (6 * i + 1)), .int (xs (6 * i + 2))]) (rest := []) (rv := r) (C := RX11) (mc := 28) (ms := 823) X Y (cwV 2 X.2.2.2.2.1 gL_law_X11_shift rfl rfl rfl (by decide +kernel) ⟨Nat.le_of_ble_eq_true rfl, Nat.le_of_ble_eq_true rfl⟩) (cw_recv h1) (fun sz => fc_shift l D cA g hc AC V PK PI (xs (6 * i + 1)) (xs (6 * i + 2)) V' PK' PI' r hg sz w1 h1) rfl rfl (Nat.le_of_ble_eq_true rfl) dL_law_1020 ⟨by show _ + _ ≤ 600000; omega, by show _ + _ ≤ 7302250; omega⟩ (fun w3 h3 => ?_)
  refine z_aload_n X dL_law_1023 rfl 2 rfl ?_
  refine z_aload_n X dL_law_1024 rfl 0 rfl ?_
  refine z_iload_n X dL_law_1025 rfl 3 rfl ?_
  refine z_iconst (v := (1 : Int32)) X dL_law_1026 (by decide) ?_
  refine z_iadd X dL_law_1027 ?_
  refine z_nm (y := nI (6 * i + 1)) (nI_add (6 * i) 1).symm ?_
  refine z_sld X hX hbl hbA (k := 6 * i + 1) (by omega) (by omega) dL_law_1028 ?_
  refine z_aload_n X dL_law_1029 rfl 0 rfl ?_
  refine z_iload_n X dL_law_1030 rfl 3 rfl ?_
  refine z_iconst (v := (2 : Int32)) X dL_law_1031 (by decide) ?_
  refine z_iadd X dL_law_1032 ?_
  refine z_nm (y := nI (6 * i + 2)) (nI_add (6 * i) 2).symm ?_
  refine z_sld X hX hbl hbA (k := 6 * i + 2) (by omega) (by omega) dL_law_1033 ?_
  refine z_perm List.perm_append_comm ?_
  refine z_LC (As := [.int (xs (6 * i + 1)), .int (xs (6 * i + 2))]) (rest := [.int r]) (rv := r) (C := RX12) (mc := 0) (ms := 0) X Y (cwV 2 X.2.2.2.2.1 gL_law_X12_shift rfl rfl rfl (by decide +kernel) ⟨Nat.le_of_ble_eq_true rfl, Nat.le_of_ble_eq_true rfl⟩) (mw_recv h2) (fun sz => fm_shift l D cA g hm am M (xs (6 * i + 1)) (xs (6 * i + 2)) M' r hh sz w2 h2) rfl rfl (Nat.le_of_ble_eq_true rfl) dL_law_1034 ⟨by show _ + _ ≤ 600000; omega, by show _ + _ ≤ 7302250; omega⟩ (fun w4 h4 => ?_)
  refine z_perm List.perm_append_comm ?_
  refine z_icmp_eq (tgt := 1157) X dL_law_1037 (by decide) (fun _ => ?_) (fun h => absurd rfl h)
  exact z_widen (by omega) (by omega) (KT V' PK' PI' M' w3 w4 h3 h4 hR')
set_option maxHeartbeats 4000000 in
set_option maxRecDepth 100000 in
theorem lc_drawn {p : Program} {l : Launch} {e : Env} {s : State} {m : MethodId} {args : Array Value} {below : List Frame} {meth : Method} {c : Code} {D : va_G} {cA : Nat → ClassId} {g : Nat → Nat} {A : Nat → Prop} {Q : State → Prop} (X : ZC p s m args meth c code 4 RL wsL_law D cA g A) (Y : ny s) {b L : Nat} {xs : Nat → Int32} (hX : va_X b L xs s s.heap) (hbl : b < s.heap.size) (hbA : ¬ A b) (hL : L ≤ 3072) {Rel : RelT} {hc hm : Nat} {AC : Nat → Nat → Nat} {am : Nat → Nat} (i : Nat) (hi : 6 * i + 6 ≤ L) (ST : St_drawn Rel) (V : Nat → Ob) (PK PI : PV) (M : Ob) (w1 w2 : va_W) (h1 : CW cA hc AC V PK PI w1) (h2 : MW cA hm am M w2) (hR : Rel V PK PI M) (KT : ∀ (V : Nat → Ob) (PK PI : PV) (M : Ob) (w1 w2 : va_W), CW cA hc AC V PK PI w1 → MW cA hm am M w2 → Rel V PK PI M → ZW p l e room_1 s m args below meth c D A 4 (95 + 28 * (i + 1)) (38338 + 823 * (i + 1)) Q (w1 ++ w2) [(0, .ref b), (1, .ref hc), (2, .ref hm), (3, .int (nI (6 * i)))] 1157 []) : ZW p l e room_1 s m args below meth c D A 4 (95 + 28 * i) (38338 + 823 * i) Q (w1 ++ w2) [(0, .ref b), (1, .ref hc), (2, .ref hm), (3, .int (nI (6 * i)))] 1042 [] := by
  obtain ⟨V', PK', PI', M', r, hg, hh, hR'⟩ := ST V PK PI M (xs (6 * i + 1)) (xs (6 * i + 2)) hR
  refine z_aload_n X dL_law_1042 rfl 1 rfl ?_
  refine z_aload_n X dL_law_1043 rfl 0 rfl ?_
  refine z_iload_n X dL_law_1044 rfl 3 rfl ?_
  refine z_iconst (v := (1 : Int32)) X dL_law_1045 (by decide) ?_
  refine z_iadd X dL_law_1046 ?_
  refine z_nm (y := nI (6 * i + 1)) (nI_add (6 * i) 1).symm ?_
  refine z_sld X hX hbl hbA (k := 6 * i + 1) (by omega) (by omega) dL_law_1047 ?_
  refine z_aload_n X dL_law_1048 rfl 0 rfl ?_
  refine z_iload_n X dL_law_1049 rfl 3 rfl ?_
  refine z_iconst (v := (2 : Int32)) X dL_law_1050 (by decide) ?_
  refine z_iadd X dL_law_1051 ?_
  refine z_nm (y := nI (6 * i + 2)) (nI_add (6 * i) 2).symm ?_
  refine z_sld X hX hbl hbA (k := 6 * i + 2) (by omega) (by omega) dL_law_1052 ?_
  refine z_LC (As := [.int (xs (6 * i + 1)), .int (xs (6 * i + 2))]) (rest := []) (rv := r) (C := RX11) (mc := 28) (ms := 823) X Y (cwV 2 X.2.2.2.2.1 gL_law_X11_drawn rfl rfl rfl (by decide +kernel) ⟨Nat.le_of_ble_eq_true rfl, Nat.le_of_ble_eq_true rfl⟩) (cw_recv h1) (fun sz => fc_drawn l D cA g hc AC V PK PI (xs (6 * i + 1)) (xs (6 * i + 2)) V' PK' PI' r hg sz w1 h1) rfl rfl (Nat.le_of_ble_eq_true rfl) dL_law_1053 ⟨by show _ + _ ≤ 600000; omega, by show _ + _ ≤ 7302250; omega⟩ (fun w3 h3 => ?_)
  refine z_aload_n X dL_law_1056 rfl 2 rfl ?_
  refine z_aload_n X dL_law_1057 rfl 0 rfl ?_
  refine z_iload_n X dL_law_1058 rfl 3 rfl ?_
  refine z_iconst (v := (1 : Int32)) X dL_law_1059 (by decide) ?_
  refine z_iadd X dL_law_1060 ?_
  refine z_nm (y := nI (6 * i + 1)) (nI_add (6 * i) 1).symm ?_
  refine z_sld X hX hbl hbA (k := 6 * i + 1) (by omega) (by omega) dL_law_1061 ?_
  refine z_aload_n X dL_law_1062 rfl 0 rfl ?_
  refine z_iload_n X dL_law_1063 rfl 3 rfl ?_
  refine z_iconst (v := (2 : Int32)) X dL_law_1064 (by decide) ?_
  refine z_iadd X dL_law_1065 ?_
  refine z_nm (y := nI (6 * i + 2)) (nI_add (6 * i) 2).symm ?_
  refine z_sld X hX hbl hbA (k := 6 * i + 2) (by omega) (by omega) dL_law_1066 ?_
  refine z_perm List.perm_append_comm ?_
  refine z_LC (As := [.int (xs (6 * i + 1)), .int (xs (6 * i + 2))]) (rest := [.int r]) (rv := r) (C := RX12) (mc := 0) (ms := 0) X Y (cwV 2 X.2.2.2.2.1 gL_law_X12_drawn rfl rfl rfl (by decide +kernel) ⟨Nat.le_of_ble_eq_true rfl, Nat.le_of_ble_eq_true rfl⟩) (mw_recv h2) (fun sz => fm_drawn l D cA g hm am M (xs (6 * i + 1)) (xs (6 * i + 2)) M' r hh sz w2 h2) rfl rfl (Nat.le_of_ble_eq_true rfl) dL_law_1067 ⟨by show _ + _ ≤ 600000; omega, by show _ + _ ≤ 7302250; omega⟩ (fun w4 h4 => ?_)
  refine z_perm List.perm_append_comm ?_
  refine z_icmp_eq (tgt := 1157) X dL_law_1070 (by decide) (fun _ => ?_) (fun h => absurd rfl h)
  exact z_widen (by omega) (by omega) (KT V' PK' PI' M' w3 w4 h3 h4 hR')
set_option maxHeartbeats 4000000 in
set_option maxRecDepth 100000 in
theorem lc_would {p : Program} {l : Launch} {e : Env} {s : State} {m : MethodId} {args : Array Value} {below : List Frame} {meth : Method} {c : Code} {D : va_G} {cA : Nat → ClassId} {g : Nat → Nat} {A : Nat → Prop} {Q : State → Prop} (X : ZC p s m args meth c code 4 RL wsL_law D cA g A) (Y : ny s) {b L : Nat} {xs : Nat → Int32} (hX : va_X b L xs s s.heap) (hbl : b < s.heap.size) (hbA : ¬ A b) (hL : L ≤ 3072) {Rel : RelT} {hc hm : Nat} {AC : Nat → Nat → Nat} {am : Nat → Nat} (i : Nat) (hi : 6 * i + 6 ≤ L) (ST : St_would Rel) (V : Nat → Ob) (PK PI : PV) (M : Ob) (w1 w2 : va_W) (h1 : CW cA hc AC V PK PI w1) (h2 : MW cA hm am M w2) (hR : Rel V PK PI M) (KT : ∀ (V : Nat → Ob) (PK PI : PV) (M : Ob) (w1 w2 : va_W), CW cA hc AC V PK PI w1 → MW cA hm am M w2 → Rel V PK PI M → ZW p l e room_1 s m args below meth c D A 4 (95 + 28 * (i + 1)) (38338 + 823 * (i + 1)) Q (w1 ++ w2) [(0, .ref b), (1, .ref hc), (2, .ref hm), (3, .int (nI (6 * i)))] 1157 []) : ZW p l e room_1 s m args below meth c D A 4 (95 + 28 * i) (38338 + 823 * i) Q (w1 ++ w2) [(0, .ref b), (1, .ref hc), (2, .ref hm), (3, .int (nI (6 * i)))] 1075 [] := by
  obtain ⟨V', PK', PI', M', r, hg, hh, hR'⟩ := ST V PK PI M (xs (6 * i + 1)) hR
  refine z_aload_n X dL_law_1075 rfl 1 rfl ?_
  refine z_aload_n X dL_law_1076 rfl 0 rfl ?_
  refine z_iload_n X dL_law_1077 rfl 3 rfl ?_
  refine z_iconst (v := (1 : Int32)) X dL_law_1078 (by decide) ?_
  refine z_iadd X dL_law_1079 ?_
  refine z_nm (y := nI (6 * i + 1)) (nI_add (6 * i) 1).symm ?_
  refine z_sld X hX hbl hbA (k := 6 * i + 1) (by omega) (by omega) dL_law_1080 ?_
  refine z_LC (As := [.int (xs (6 * i + 1))]) (rest := []) (rv := r) (C := RX11) (mc := 0) (ms := 0) X Y (cwV 1 X.2.2.2.2.1 gL_law_X11_would rfl rfl rfl (by decide +kernel) ⟨Nat.le_of_ble_eq_true rfl, Nat.le_of_ble_eq_true rfl⟩) (cw_recv h1) (fun sz => fc_would l D cA g hc AC V PK PI (xs (6 * i + 1)) V' PK' PI' r hg sz w1 h1) rfl rfl (Nat.le_of_ble_eq_true rfl) dL_law_1081 ⟨by show _ + _ ≤ 600000; omega, by show _ + _ ≤ 7302250; omega⟩ (fun w3 h3 => ?_)
  refine z_aload_n X dL_law_1084 rfl 2 rfl ?_
  refine z_aload_n X dL_law_1085 rfl 0 rfl ?_
  refine z_iload_n X dL_law_1086 rfl 3 rfl ?_
  refine z_iconst (v := (1 : Int32)) X dL_law_1087 (by decide) ?_
  refine z_iadd X dL_law_1088 ?_
  refine z_nm (y := nI (6 * i + 1)) (nI_add (6 * i) 1).symm ?_
  refine z_sld X hX hbl hbA (k := 6 * i + 1) (by omega) (by omega) dL_law_1089 ?_
  refine z_perm List.perm_append_comm ?_
  refine z_LC (As := [.int (xs (6 * i + 1))]) (rest := [.int r]) (rv := r) (C := RX12) (mc := 0) (ms := 0) X Y (cwV 1 X.2.2.2.2.1 gL_law_X12_would rfl rfl rfl (by decide +kernel) ⟨Nat.le_of_ble_eq_true rfl, Nat.le_of_ble_eq_true rfl⟩) (mw_recv h2) (fun sz => fm_would l D cA g hm am M (xs (6 * i + 1)) M' r hh sz w2 h2) rfl rfl (Nat.le_of_ble_eq_true rfl) dL_law_1090 ⟨by show _ + _ ≤ 600000; omega, by show _ + _ ≤ 7302250; omega⟩ (fun w4 h4 => ?_)
  refine z_perm List.perm_append_comm ?_
  refine z_icmp_eq (tgt := 1157) X dL_law_1093 (by decide) (fun _ => ?_) (fun h => absurd rfl h)
  exact z_widen (by omega) (by omega) (KT V' PK' PI' M' w3 w4 h3 h4 hR')
set_option maxHeartbeats 4000000 in
set_option maxRecDepth 100000 in
theorem lc_undo {p : Program} {l : Launch} {e : Env} {s : State} {m : MethodId} {args : Array Value} {below : List Frame} {meth : Method} {c : Code} {D : va_G} {cA : Nat → ClassId} {g : Nat → Nat} {A : Nat → Prop} {Q : State → Prop} (X : ZC p s m args meth c code 4 RL wsL_law D cA g A) (Y : ny s) {b L : Nat} {xs : Nat → Int32} (hX : va_X b L xs s s.heap) (hbl : b < s.heap.size) (hbA : ¬ A b) (hL : L ≤ 3072) {Rel : RelT} {hc hm : Nat} {AC : Nat → Nat → Nat} {am : Nat → Nat} (i : Nat) (hi : 6 * i + 6 ≤ L) (ST : St_undo Rel) (V : Nat → Ob) (PK PI : PV) (M : Ob) (w1 w2 : va_W) (h1 : CW cA hc AC V PK PI w1) (h2 : MW cA hm am M w2) (hR : Rel V PK PI M) (KT : ∀ (V : Nat → Ob) (PK PI : PV) (M : Ob) (w1 w2 : va_W), CW cA hc AC V PK PI w1 → MW cA hm am M w2 → Rel V PK PI M → ZW p l e room_1 s m args below meth c D A 4 (95 + 28 * (i + 1)) (38338 + 823 * (i + 1)) Q (w1 ++ w2) [(0, .ref b), (1, .ref hc), (2, .ref hm), (3, .int (nI (6 * i)))] 1157 []) : ZW p l e room_1 s m args below meth c D A 4 (95 + 28 * i) (38338 + 823 * i) Q (w1 ++ w2) [(0, .ref b), (1, .ref hc), (2, .ref hm), (3, .int (nI (6 * i)))] 1098 [] := by
  obtain ⟨V', PK', PI', M', r, hg, hh, hR'⟩ := ST V PK PI M  hR
  refine z_aload_n X dL_law_1098 rfl 1 rfl ?_
  refine z_LC (As := []) (rest := []) (rv := r) (C := RX11) (mc := 0) (ms := 0) X Y (cwV 0 X.2.2.2.2.1 gL_law_X11_undo rfl rfl rfl (by decide +kernel) ⟨Nat.le_of_ble_eq_true rfl, Nat.le_of_ble_eq_true rfl⟩) (cw_recv h1) (fun sz => fc_undo l D cA g hc AC V PK PI  V' PK' PI' r hg sz w1 h1) rfl rfl (Nat.le_of_ble_eq_true rfl) dL_law_1099 ⟨by show _ + _ ≤ 600000; omega, by show _ + _ ≤ 7302250; omega⟩ (fun w3 h3 => ?_)
  refine z_aload_n X dL_law_1102 rfl 2 rfl ?_
  refine z_perm List.perm_append_comm ?_
  refine z_LC (As := []) (rest := [.int r]) (rv := r) (C := RX12) (mc := 0) (ms := 0) X Y (cwV 0 X.2.2.2.2.1 gL_law_X12_undo rfl rfl rfl (by decide +kernel) ⟨Nat.le_of_ble_eq_true rfl, Nat.le_of_ble_eq_true rfl⟩) (mw_recv h2) (fun sz => fm_undo l D cA g hm am M  M' r hh sz w2 h2) rfl rfl (Nat.le_of_ble_eq_true rfl) dL_law_1103 ⟨by show _ + _ ≤ 600000; omega, by show _ + _ ≤ 7302250; omega⟩ (fun w4 h4 => ?_)
  refine z_perm List.perm_append_comm ?_
  refine z_icmp_eq (tgt := 1157) X dL_law_1106 (by decide) (fun _ => ?_) (fun h => absurd rfl h)
  exact z_widen (by omega) (by omega) (KT V' PK' PI' M' w3 w4 h3 h4 hR')
set_option maxHeartbeats 4000000 in
set_option maxRecDepth 100000 in
theorem lc_image {p : Program} {l : Launch} {e : Env} {s : State} {m : MethodId} {args : Array Value} {below : List Frame} {meth : Method} {c : Code} {D : va_G} {cA : Nat → ClassId} {g : Nat → Nat} {A : Nat → Prop} {Q : State → Prop} (X : ZC p s m args meth c code 4 RL wsL_law D cA g A) (Y : ny s) {b L : Nat} {xs : Nat → Int32} (hX : va_X b L xs s s.heap) (hbl : b < s.heap.size) (hbA : ¬ A b) (hL : L ≤ 3072) {Rel : RelT} {hc hm : Nat} {AC : Nat → Nat → Nat} {am : Nat → Nat} (i : Nat) (hi : 6 * i + 6 ≤ L) (ST : St_image Rel) (V : Nat → Ob) (PK PI : PV) (M : Ob) (w1 w2 : va_W) (h1 : CW cA hc AC V PK PI w1) (h2 : MW cA hm am M w2) (hR : Rel V PK PI M) (KT : ∀ (V : Nat → Ob) (PK PI : PV) (M : Ob) (w1 w2 : va_W), CW cA hc AC V PK PI w1 → MW cA hm am M w2 → Rel V PK PI M → ZW p l e room_1 s m args below meth c D A 4 (95 + 28 * (i + 1)) (38338 + 823 * (i + 1)) Q (w1 ++ w2) [(0, .ref b), (1, .ref hc), (2, .ref hm), (3, .int (nI (6 * i)))] 1157 []) : ZW p l e room_1 s m args below meth c D A 4 (95 + 28 * i) (38338 + 823 * i) Q (w1 ++ w2) [(0, .ref b), (1, .ref hc), (2, .ref hm), (3, .int (nI (6 * i)))] 1111 [] := by
  obtain ⟨V', PK', PI', M', r, hg, hh, hR'⟩ := ST V PK PI M (xs (6 * i + 1)) hR
  refine z_aload_n X dL_law_1111 rfl 1 rfl ?_
  refine z_aload_n X dL_law_1112 rfl 0 rfl ?_
  refine z_iload_n X dL_law_1113 rfl 3 rfl ?_
  refine z_iconst (v := (1 : Int32)) X dL_law_1114 (by decide) ?_
  refine z_iadd X dL_law_1115 ?_
  refine z_nm (y := nI (6 * i + 1)) (nI_add (6 * i) 1).symm ?_
  refine z_sld X hX hbl hbA (k := 6 * i + 1) (by omega) (by omega) dL_law_1116 ?_
  refine z_LC (As := [.int (xs (6 * i + 1))]) (rest := []) (rv := r) (C := RX11) (mc := 28) (ms := 823) X Y (cwV 1 X.2.2.2.2.1 gL_law_X11_image rfl rfl rfl (by decide +kernel) ⟨Nat.le_of_ble_eq_true rfl, Nat.le_of_ble_eq_true rfl⟩) (cw_recv h1) (fun sz => fc_image l D cA g hc AC V PK PI (xs (6 * i + 1)) V' PK' PI' r hg sz w1 h1) rfl rfl (Nat.le_of_ble_eq_true rfl) dL_law_1117 ⟨by show _ + _ ≤ 600000; omega, by show _ + _ ≤ 7302250; omega⟩ (fun w3 h3 => ?_)
  refine z_aload_n X dL_law_1120 rfl 2 rfl ?_
  refine z_aload_n X dL_law_1121 rfl 0 rfl ?_
  refine z_iload_n X dL_law_1122 rfl 3 rfl ?_
  refine z_iconst (v := (1 : Int32)) X dL_law_1123 (by decide) ?_
  refine z_iadd X dL_law_1124 ?_
  refine z_nm (y := nI (6 * i + 1)) (nI_add (6 * i) 1).symm ?_
  refine z_sld X hX hbl hbA (k := 6 * i + 1) (by omega) (by omega) dL_law_1125 ?_
  refine z_perm List.perm_append_comm ?_
  refine z_LC (As := [.int (xs (6 * i + 1))]) (rest := [.int r]) (rv := r) (C := RX12) (mc := 0) (ms := 0) X Y (cwV 1 X.2.2.2.2.1 gL_law_X12_image rfl rfl rfl (by decide +kernel) ⟨Nat.le_of_ble_eq_true rfl, Nat.le_of_ble_eq_true rfl⟩) (mw_recv h2) (fun sz => fm_image l D cA g hm am M (xs (6 * i + 1)) M' r hh sz w2 h2) rfl rfl (Nat.le_of_ble_eq_true rfl) dL_law_1126 ⟨by show _ + _ ≤ 600000; omega, by show _ + _ ≤ 7302250; omega⟩ (fun w4 h4 => ?_)
  refine z_perm List.perm_append_comm ?_
  refine z_icmp_eq (tgt := 1157) X dL_law_1129 (by decide) (fun _ => ?_) (fun h => absurd rfl h)
  exact z_widen (by omega) (by omega) (KT V' PK' PI' M' w3 w4 h3 h4 hR')
set_option maxHeartbeats 4000000 in
set_option maxRecDepth 100000 in
theorem lc_restore {p : Program} {l : Launch} {e : Env} {s : State} {m : MethodId} {args : Array Value} {below : List Frame} {meth : Method} {c : Code} {D : va_G} {cA : Nat → ClassId} {g : Nat → Nat} {A : Nat → Prop} {Q : State → Prop} (X : ZC p s m args meth c code 4 RL wsL_law D cA g A) (Y : ny s) {b L : Nat} {xs : Nat → Int32} (hX : va_X b L xs s s.heap) (hbl : b < s.heap.size) (hbA : ¬ A b) (hL : L ≤ 3072) {Rel : RelT} {hc hm : Nat} {AC : Nat → Nat → Nat} {am : Nat → Nat} (i : Nat) (hi : 6 * i + 6 ≤ L) (ST : St_restore Rel) (V : Nat → Ob) (PK PI : PV) (M : Ob) (w1 w2 : va_W) (h1 : CW cA hc AC V PK PI w1) (h2 : MW cA hm am M w2) (hR : Rel V PK PI M) (KT : ∀ (V : Nat → Ob) (PK PI : PV) (M : Ob) (w1 w2 : va_W), CW cA hc AC V PK PI w1 → MW cA hm am M w2 → Rel V PK PI M → ZW p l e room_1 s m args below meth c D A 4 (95 + 28 * (i + 1)) (38338 + 823 * (i + 1)) Q (w1 ++ w2) [(0, .ref b), (1, .ref hc), (2, .ref hm), (3, .int (nI (6 * i)))] 1157 []) : ZW p l e room_1 s m args below meth c D A 4 (95 + 28 * i) (38338 + 823 * i) Q (w1 ++ w2) [(0, .ref b), (1, .ref hc), (2, .ref hm), (3, .int (nI (6 * i)))] 1134 [] := by
  obtain ⟨V', PK', PI', M', r, hg, hh, hR'⟩ := ST V PK PI M (xs (6 * i + 1)) hR
  refine z_aload_n X dL_law_1134 rfl 1 rfl ?_
  refine z_aload_n X dL_law_1135 rfl 0 rfl ?_
  refine z_iload_n X dL_law_1136 rfl 3 rfl ?_
  refine z_iconst (v := (1 : Int32)) X dL_law_1137 (by decide) ?_
  refine z_iadd X dL_law_1138 ?_
  refine z_nm (y := nI (6 * i + 1)) (nI_add (6 * i) 1).symm ?_
  refine z_sld X hX hbl hbA (k := 6 * i + 1) (by omega) (by omega) dL_law_1139 ?_
  refine z_LC (As := [.int (xs (6 * i + 1))]) (rest := []) (rv := r) (C := RX11) (mc := 0) (ms := 0) X Y (cwV 1 X.2.2.2.2.1 gL_law_X11_restore rfl rfl rfl (by decide +kernel) ⟨Nat.le_of_ble_eq_true rfl, Nat.le_of_ble_eq_true rfl⟩) (cw_recv h1) (fun sz => fc_restore l D cA g hc AC V PK PI (xs (6 * i + 1)) V' PK' PI' r hg sz w1 h1) rfl rfl (Nat.le_of_ble_eq_true rfl) dL_law_1140 ⟨by show _ + _ ≤ 600000; omega, by show _ + _ ≤ 7302250; omega⟩ (fun w3 h3 => ?_)
  refine z_aload_n X dL_law_1143 rfl 2 rfl ?_
  refine z_aload_n X dL_law_1144 rfl 0 rfl ?_
  refine z_iload_n X dL_law_1145 rfl 3 rfl ?_
  refine z_iconst (v := (1 : Int32)) X dL_law_1146 (by decide) ?_
  refine z_iadd X dL_law_1147 ?_
  refine z_nm (y := nI (6 * i + 1)) (nI_add (6 * i) 1).symm ?_
  refine z_sld X hX hbl hbA (k := 6 * i + 1) (by omega) (by omega) dL_law_1148 ?_
  refine z_perm List.perm_append_comm ?_
  refine z_LC (As := [.int (xs (6 * i + 1))]) (rest := [.int r]) (rv := r) (C := RX12) (mc := 0) (ms := 0) X Y (cwV 1 X.2.2.2.2.1 gL_law_X12_restore rfl rfl rfl (by decide +kernel) ⟨Nat.le_of_ble_eq_true rfl, Nat.le_of_ble_eq_true rfl⟩) (mw_recv h2) (fun sz => fm_restore l D cA g hm am M (xs (6 * i + 1)) M' r hh sz w2 h2) rfl rfl (Nat.le_of_ble_eq_true rfl) dL_law_1149 ⟨by show _ + _ ≤ 600000; omega, by show _ + _ ≤ 7302250; omega⟩ (fun w4 h4 => ?_)
  refine z_perm List.perm_append_comm ?_
  refine z_icmp_eq (tgt := 1157) X dL_law_1152 (by decide) (fun _ => ?_) (fun h => absurd rfl h)
  exact z_widen (by omega) (by omega) (KT V' PK' PI' M' w3 w4 h3 h4 hR')
