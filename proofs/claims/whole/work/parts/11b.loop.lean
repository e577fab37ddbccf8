set_option maxHeartbeats 4000000 in
set_option maxRecDepth 100000 in
theorem lc_feed {p : Program} {l : Launch} {e : Env} {s : State} {m : MethodId} {args : Array Value} {below : List Frame} {meth : Method} {c : Code} {D : va_G} {cA : Nat → ClassId} {g : Nat → Nat} {A : Nat → Prop} {Q : State → Prop} (X : ZC p s m args meth c code 4 RL wsL_law D cA g A) (Y : ny s) {b L : Nat} {xs : Nat → Int32} (hX : va_X b L xs s s.heap) (hbl : b < s.heap.size) (hbA : ¬ A b) (hL : L ≤ 3072) {Rel : RelT} {hc hm : Nat} {AC : Nat → Nat → Nat} {am : Nat → Nat} (i : Nat) (hi : 6 * i + 6 ≤ L) (ST : St_feed Rel) (V : Nat → Ob) (PK PI : PV) (M : Ob) (w1 w2 : va_W) (h1 : CW cA hc AC V PK PI w1) (h2 : MW cA hm am M w2) (hR : Rel V PK PI M) (KT : ∀ (V : Nat → Ob) (PK PI : PV) (M : Ob) (w1 w2 : va_W), CW cA hc AC V PK PI w1 → MW cA hm am M w2 → Rel V PK PI M → ZW p l e room_1 s m args below meth c D A 4 (95 + 28 * (i + 1)) (38338 + 823 * (i + 1)) Q (w1 ++ w2) [(0, .ref b), (1, .ref hc), (2, .ref hm), (3, .int (nI (6 * i)))] 1157 []) : ZW p l e room_1 s m args below meth c D A 4 (95 + 28 * i) (38338 + 823 * i) Q (w1 ++ w2) [(0, .ref b), (1, .ref hc), (2, .ref hm), (3, .int (nI (6 * i)))] 196 [] := by
  obtain ⟨V', PK', PI', M', r, hg, hh, hR'⟩ := ST V PK PI M (xs (6 * i + 1)) (xs (6 * i + 2)) (xs (6 * i + 3)) (xs (6 * i + 4)) (xs (6 * i + 5)) hR
  refine z_aload_n X dL_law_196 rfl 1 rfl ?_
  refine z_aload_n X dL_law_197 rfl 0 rfl ?_
  refine z_iload_n X dL_law_198 rfl 3 rfl ?_
  refine z_iconst (v := (1 : Int32)) X dL_law_199 (by decide) ?_
  refine z_iadd X dL_law_200 ?_
  refine z_nm (y := nI (6 * i + 1)) (nI_add (6 * i) 1).symm ?_
  refine z_sld X hX hbl hbA (k := 6 * i + 1) (by omega) (by omega) dL_law_201 ?_
  refine z_aload_n X dL_law_202 rfl 0 rfl ?_
  refine z_iload_n X dL_law_203 rfl 3 rfl ?_
  refine z_iconst (v := (2 : Int32)) X dL_law_204 (by decide) ?_
  refine z_iadd X dL_law_205 ?_
  refine z_nm (y := nI (6 * i + 2)) (nI_add (6 * i) 2).symm ?_
  refine z_sld X hX hbl hbA (k := 6 * i + 2) (by omega) (by omega) dL_law_206 ?_
  refine z_aload_n X dL_law_207 rfl 0 rfl ?_
  refine z_iload_n X dL_law_208 rfl 3 rfl ?_
  refine z_iconst (v := (3 : Int32)) X dL_law_209 (by decide) ?_
  refine z_iadd X dL_law_210 ?_
  refine z_nm (y := nI (6 * i + 3)) (nI_add (6 * i) 3).symm ?_
  refine z_sld X hX hbl hbA (k := 6 * i + 3) (by omega) (by omega) dL_law_211 ?_
  refine z_aload_n X dL_law_212 rfl 0 rfl ?_
  refine z_iload_n X dL_law_213 rfl 3 rfl ?_
  refine z_iconst (v := (4 : Int32)) X dL_law_214 (by decide) ?_
  refine z_iadd X dL_law_215 ?_
  refine z_nm (y := nI (6 * i + 4)) (nI_add (6 * i) 4).symm ?_
  refine z_sld X hX hbl hbA (k := 6 * i + 4) (by omega) (by omega) dL_law_216 ?_
  refine z_aload_n X dL_law_217 rfl 0 rfl ?_
  refine z_iload_n X dL_law_218 rfl 3 rfl ?_
  refine z_iconst (v := (5 : Int32)) X dL_law_219 (by decide) ?_
  refine z_iadd X dL_law_220 ?_
  refine z_nm (y := nI (6 * i + 5)) (nI_add (6 * i) 5).symm ?_
  refine z_sld X hX hbl hbA (k := 6 * i + 5) (by omega) (by omega) dL_law_221 ?_
  refine z_LC (As := [.int (xs (6 * i + 1)), .int (xs (6 * i + 2)), .int (xs (6 * i + 3)), .int (xs (6 * i + 4)), .int (xs (6 * i + 5))]) (rest := []) (rv := r) (C := RX11) (mc := 0) (ms := 0) X Y (cwV 5 X.2.2.2.2.1 gL_law_X11_feed rfl rfl rfl (by decide +kernel) ⟨Nat.le_of_ble_eq_true rfl, Nat.le_of_ble_eq_true rfl⟩) (cw_recv h1) (fun sz => fc_feed l D cA g hc AC V PK PI (xs (6 * i + 1)) (xs (6 * i + 2)) (xs (6 * i + 3)) (xs (6 * i + 4)) (xs (6 * i + 5)) V' PK' PI' r hg sz w1 h1) rfl rfl (Nat.le_of_ble_eq_true rfl) dL_law_222 ⟨by show _ + _ ≤ 600000; omega, by show _ + _ ≤ 7302250; omega⟩ (fun w3 h3 => ?_)
  refine z_aload_n X dL_law_225 rfl 2 rfl ?_
  refine z_aload_n X dL_law_226 rfl 0 rfl ?_
  refine z_iload_n X dL_law_227 rfl 3 rfl ?_
  refine z_iconst (v := (1 : Int32)) X dL_law_228 (by decide) ?_
  refine z_iadd X dL_law_229 ?_
  refine z_nm (y := nI (6 * i + 1)) (nI_add (6 * i) 1).symm ?_
  refine z_sld X hX hbl hbA (k := 6 * i + 1) (by omega) (by omega) dL_law_230 ?_
  refine z_aload_n X dL_law_231 rfl 0 rfl ?_
  refine z_iload_n X dL_law_232 rfl 3 rfl ?_
  refine z_iconst (v := (2 : Int32)) X dL_law_233 (by decide) ?_
  refine z_iadd X dL_law_234 ?_
  refine z_nm (y := nI (6 * i + 2)) (nI_add (6 * i) 2).symm ?_
  refine z_sld X hX hbl hbA (k := 6 * i + 2) (by omega) (by omega) dL_law_235 ?_
  refine z_aload_n X dL_law_236 rfl 0 rfl ?_
  refine z_iload_n X dL_law_237 rfl 3 rfl ?_
  refine z_iconst (v := (3 : Int32)) X dL_law_238 (by decide) ?_
  refine z_iadd X dL_law_239 ?_
  refine z_nm (y := nI (6 * i + 3)) (nI_add (6 * i) 3).symm ?_
  refine z_sld X hX hbl hbA (k := 6 * i + 3) (by omega) (by omega) dL_law_240 ?_
  refine z_aload_n X dL_law_241 rfl 0 rfl ?_
  refine z_iload_n X dL_law_242 rfl 3 rfl ?_
  refine z_iconst (v := (4 : Int32)) X dL_law_243 (by decide) ?_
  refine z_iadd X dL_law_244 ?_
  refine z_nm (y := nI (6 * i + 4)) (nI_add (6 * i) 4).symm ?_
  refine z_sld X hX hbl hbA (k := 6 * i + 4) (by omega) (by omega) dL_law_245 ?_
  refine z_aload_n X dL_law_246 rfl 0 rfl ?_
  refine z_iload_n X dL_law_247 rfl 3 rfl ?_
  refine z_iconst (v := (5 : Int32)) X dL_law_248 (by decide) ?_
  refine z_iadd X dL_law_249 ?_
  refine z_nm (y := nI (6 * i + 5)) (nI_add (6 * i) 5).symm ?_
  refine z_sld X hX hbl hbA (k := 6 * i + 5) (by omega) (by omega) dL_law_250 ?_
  refine z_perm List.perm_append_comm ?_
  refine z_LC (As := [.int (xs (6 * i + 1)), .int (xs (6 * i + 2)), .int (xs (6 * i + 3)), .int (xs (6 * i + 4)), .int (xs (6 * i + 5))]) (rest := [.int r]) (rv := r) (C := RX12) (mc := 0) (ms := 0) X Y (cwV 5 X.2.2.2.2.1 gL_law_X12_feed rfl rfl rfl (by decide +kernel) ⟨Nat.le_of_ble_eq_true rfl, Nat.le_of_ble_eq_true rfl⟩) (mw_recv h2) (fun sz => fm_feed l D cA g hm am M (xs (6 * i + 1)) (xs (6 * i + 2)) (xs (6 * i + 3)) (xs (6 * i + 4)) (xs (6 * i + 5)) M' r hh sz w2 h2) rfl rfl (Nat.le_of_ble_eq_true rfl) dL_law_251 ⟨by show _ + _ ≤ 600000; omega, by show _ + _ ≤ 7302250; omega⟩ (fun w4 h4 => ?_)
  refine z_perm List.perm_append_comm ?_
  refine z_icmp_eq (tgt := 1157) X dL_law_254 (by decide) (fun _ => ?_) (fun h => absurd rfl h)
  exact z_widen (by omega) (by omega) (KT V' PK' PI' M' w3 w4 h3 h4 hR')
set_option maxHeartbeats 4000000 in
set_option maxRecDepth 100000 in
theorem lc_end {p : Program} {l : Launch} {e : Env} {s : State} {m : MethodId} {args : Array Value} {below : List Frame} {meth : Method} {c : Code} {D : va_G} {cA : Nat → ClassId} {g : Nat → Nat} {A : Nat → Prop} {Q : State → Prop} (X : ZC p s m args meth c code 4 RL wsL_law D cA g A) (Y : ny s) {b L : Nat} {xs : Nat → Int32} (hX : va_X b L xs s s.heap) (hbl : b < s.heap.size) (hbA : ¬ A b) (hL : L ≤ 3072) {Rel : RelT} {hc hm : Nat} {AC : Nat → Nat → Nat} {am : Nat → Nat} (i : Nat) (hi : 6 * i + 6 ≤ L) (ST : St_end Rel) (V : Nat → Ob) (PK PI : PV) (M : Ob) (w1 w2 : va_W) (h1 : CW cA hc AC V PK PI w1) (h2 : MW cA hm am M w2) (hR : Rel V PK PI M) (KT : ∀ (V : Nat → Ob) (PK PI : PV) (M : Ob) (w1 w2 : va_W), CW cA hc AC V PK PI w1 → MW cA hm am M w2 → Rel V PK PI M → ZW p l e room_1 s m args below meth c D A 4 (95 + 28 * (i + 1)) (38338 + 823 * (i + 1)) Q (w1 ++ w2) [(0, .ref b), (1, .ref hc), (2, .ref hm), (3, .int (nI (6 * i)))] 1157 []) : ZW p l e room_1 s m args below meth c D A 4 (95 + 28 * i) (38338 + 823 * i) Q (w1 ++ w2) [(0, .ref b), (1, .ref hc), (2, .ref hm), (3, .int (nI (6 * i)))] 259 [] := by
  obtain ⟨V', PK', PI', M', r, hg, hh, hR'⟩ := ST V PK PI M (xs (6 * i + 1)) hR
  refine z_aload_n X dL_law_259 rfl 1 rfl ?_
  refine z_aload_n X dL_law_260 rfl 0 rfl ?_
  refine z_iload_n X dL_law_261 rfl 3 rfl ?_
  refine z_iconst (v := (1 : Int32)) X dL_law_262 (by decide) ?_
  refine z_iadd X dL_law_263 ?_
  refine z_nm (y := nI (6 * i + 1)) (nI_add (6 * i) 1).symm ?_
  refine z_sld X hX hbl hbA (k := 6 * i + 1) (by omega) (by omega) dL_law_264 ?_
  refine z_LC (As := [.int (xs (6 * i + 1))]) (rest := []) (rv := r) (C := RX11) (mc := 0) (ms := 0) X Y (cwV 1 X.2.2.2.2.1 gL_law_X11_end rfl rfl rfl (by decide +kernel) ⟨Nat.le_of_ble_eq_true rfl, Nat.le_of_ble_eq_true rfl⟩) (cw_recv h1) (fun sz => fc_end l D cA g hc AC V PK PI (xs (6 * i + 1)) V' PK' PI' r hg sz w1 h1) rfl rfl (Nat.le_of_ble_eq_true rfl) dL_law_265 ⟨by show _ + _ ≤ 600000; omega, by show _ + _ ≤ 7302250; omega⟩ (fun w3 h3 => ?_)
  refine z_aload_n X dL_law_268 rfl 2 rfl ?_
  refine z_aload_n X dL_law_269 rfl 0 rfl ?_
  refine z_iload_n X dL_law_270 rfl 3 rfl ?_
  refine z_iconst (v := (1 : Int32)) X dL_law_271 (by decide) ?_
  refine z_iadd X dL_law_272 ?_
  refine z_nm (y := nI (6 * i + 1)) (nI_add (6 * i) 1).symm ?_
  refine z_sld X hX hbl hbA (k := 6 * i + 1) (by omega) (by omega) dL_law_273 ?_
  refine z_perm List.perm_append_comm ?_
  refine z_LC (As := [.int (xs (6 * i + 1))]) (rest := [.int r]) (rv := r) (C := RX12) (mc := 0) (ms := 0) X Y (cwV 1 X.2.2.2.2.1 gL_law_X12_end rfl rfl rfl (by decide +kernel) ⟨Nat.le_of_ble_eq_true rfl, Nat.le_of_ble_eq_true rfl⟩) (mw_recv h2) (fun sz => fm_end l D cA g hm am M (xs (6 * i + 1)) M' r hh sz w2 h2) rfl rfl (Nat.le_of_ble_eq_true rfl) dL_law_274 ⟨by show _ + _ ≤ 600000; omega, by show _ + _ ≤ 7302250; omega⟩ (fun w4 h4 => ?_)
  refine z_perm List.perm_append_comm ?_
  refine z_icmp_eq (tgt := 1157) X dL_law_277 (by decide) (fun _ => ?_) (fun h => absurd rfl h)
  exact z_widen (by omega) (by omega) (KT V' PK' PI' M' w3 w4 h3 h4 hR')
set_option maxHeartbeats 4000000 in
set_option maxRecDepth 100000 in
theorem lc_store {p : Program} {l : Launch} {e : Env} {s : State} {m : MethodId} {args : Array Value} {below : List Frame} {meth : Method} {c : Code} {D : va_G} {cA : Nat → ClassId} {g : Nat → Nat} {A : Nat → Prop} {Q : State → Prop} (X : ZC p s m args meth c code 4 RL wsL_law D cA g A) (Y : ny s) {b L : Nat} {xs : Nat → Int32} (hX : va_X b L xs s s.heap) (hbl : b < s.heap.size) (hbA : ¬ A b) (hL : L ≤ 3072) {Rel : RelT} {hc hm : Nat} {AC : Nat → Nat → Nat} {am : Nat → Nat} (i : Nat) (hi : 6 * i + 6 ≤ L) (ST : St_store Rel) (V : Nat → Ob) (PK PI : PV) (M : Ob) (w1 w2 : va_W) (h1 : CW cA hc AC V PK PI w1) (h2 : MW cA hm am M w2) (hR : Rel V PK PI M) (KT : ∀ (V : Nat → Ob) (PK PI : PV) (M : Ob) (w1 w2 : va_W), CW cA hc AC V PK PI w1 → MW cA hm am M w2 → Rel V PK PI M → ZW p l e room_1 s m args below meth c D A 4 (95 + 28 * (i + 1)) (38338 + 823 * (i + 1)) Q (w1 ++ w2) [(0, .ref b), (1, .ref hc), (2, .ref hm), (3, .int (nI (6 * i)))] 1157 []) : ZW p l e room_1 s m args below meth c D A 4 (95 + 28 * i) (38338 + 823 * i) Q (w1 ++ w2) [(0, .ref b), (1, .ref hc), (2, .ref hm), (3, .int (nI (6 * i)))] 282 [] := by
  obtain ⟨V', PK', PI', M', r, hg, hh, hR'⟩ := ST V PK PI M  hR
  refine z_aload_n X dL_law_282 rfl 1 rfl ?_
  refine z_LC (As := []) (rest := []) (rv := r) (C := RX11) (mc := 0) (ms := 0) X Y (cwV 0 X.2.2.2.2.1 gL_law_X11_store rfl rfl rfl (by decide +kernel) ⟨Nat.le_of_ble_eq_true rfl, Nat.le_of_ble_eq_true rfl⟩) (cw_recv h1) (fun sz => fc_store l D cA g hc AC V PK PI  V' PK' PI' r hg sz w1 h1) rfl rfl (Nat.le_of_ble_eq_true rfl) dL_law_283 ⟨by show _ + _ ≤ 600000; omega, by show _ + _ ≤ 7302250; omega⟩ (fun w3 h3 => ?_)
  refine z_aload_n X dL_law_286 rfl 2 rfl ?_
  refine z_perm List.perm_append_comm ?_
  refine z_LC (As := []) (rest := [.int r]) (rv := r) (C := RX12) (mc := 0) (ms := 0) X Y (cwV 0 X.2.2.2.2.1 gL_law_X12_store rfl rfl rfl (by decide +kernel) ⟨Nat.le_of_ble_eq_true rfl, Nat.le_of_ble_eq_true rfl⟩) (mw_recv h2) (fun sz => fm_store l D cA g hm am M  M' r hh sz w2 h2) rfl rfl (Nat.le_of_ble_eq_true rfl) dL_law_287 ⟨by show _ + _ ≤ 600000; omega, by show _ + _ ≤ 7302250; omega⟩ (fun w4 h4 => ?_)
  refine z_perm List.perm_append_comm ?_
  refine z_icmp_eq (tgt := 1157) X dL_law_290 (by decide) (fun _ => ?_) (fun h => absurd rfl h)
  exact z_widen (by omega) (by omega) (KT V' PK' PI' M' w3 w4 h3 h4 hR')
set_option maxHeartbeats 4000000 in
set_option maxRecDepth 100000 in
theorem lc_fault {p : Program} {l : Launch} {e : Env} {s : State} {m : MethodId} {args : Array Value} {below : List Frame} {meth : Method} {c : Code} {D : va_G} {cA : Nat → ClassId} {g : Nat → Nat} {A : Nat → Prop} {Q : State → Prop} (X : ZC p s m args meth c code 4 RL wsL_law D cA g A) (Y : ny s) {b L : Nat} {xs : Nat → Int32} (hX : va_X b L xs s s.heap) (hbl : b < s.heap.size) (hbA : ¬ A b) (hL : L ≤ 3072) {Rel : RelT} {hc hm : Nat} {AC : Nat → Nat → Nat} {am : Nat → Nat} (i : Nat) (hi : 6 * i + 6 ≤ L) (ST : St_fault Rel) (V : Nat → Ob) (PK PI : PV) (M : Ob) (w1 w2 : va_W) (h1 : CW cA hc AC V PK PI w1) (h2 : MW cA hm am M w2) (hR : Rel V PK PI M) (KT : ∀ (V : Nat → Ob) (PK PI : PV) (M : Ob) (w1 w2 : va_W), CW cA hc AC V PK PI w1 → MW cA hm am M w2 → Rel V PK PI M → ZW p l e room_1 s m args below meth c D A 4 (95 + 28 * (i + 1)) (38338 + 823 * (i + 1)) Q (w1 ++ w2) [(0, .ref b), (1, .ref hc), (2, .ref hm), (3, .int (nI (6 * i)))] 1157 []) : ZW p l e room_1 s m args below meth c D A 4 (95 + 28 * i) (38338 + 823 * i) Q (w1 ++ w2) [(0, .ref b), (1, .ref hc), (2, .ref hm), (3, .int (nI (6 * i)))] 295 [] := by
  obtain ⟨V', PK', PI', M', r, hg, hh, hR'⟩ := ST V PK PI M  hR
  refine z_aload_n X dL_law_295 rfl 1 rfl ?_
  refine z_LC (As := []) (rest := []) (rv := r) (C := RX11) (mc := 0) (ms := 0) X Y (cwV 0 X.2.2.2.2.1 gL_law_X11_fault rfl rfl rfl (by decide +kernel) ⟨Nat.le_of_ble_eq_true rfl, Nat.le_of_ble_eq_true rfl⟩) (cw_recv h1) (fun sz => fc_fault l D cA g hc AC V PK PI  V' PK' PI' r hg sz w1 h1) rfl rfl (Nat.le_of_ble_eq_true rfl) dL_law_296 ⟨by show _ + _ ≤ 600000; omega, by show _ + _ ≤ 7302250; omega⟩ (fun w3 h3 => ?_)
  refine z_aload_n X dL_law_299 rfl 2 rfl ?_
  refine z_perm List.perm_append_comm ?_
  refine z_LC (As := []) (rest := [.int r]) (rv := r) (C := RX12) (mc := 0) (ms := 0) X Y (cwV 0 X.2.2.2.2.1 gL_law_X12_fault rfl rfl rfl (by decide +kernel) ⟨Nat.le_of_ble_eq_true rfl, Nat.le_of_ble_eq_true rfl⟩) (mw_recv h2) (fun sz => fm_fault l D cA g hm am M  M' r hh sz w2 h2) rfl rfl (Nat.le_of_ble_eq_true rfl) dL_law_300 ⟨by show _ + _ ≤ 600000; omega, by show _ + _ ≤ 7302250; omega⟩ (fun w4 h4 => ?_)
  refine z_perm List.perm_append_comm ?_
  refine z_icmp_eq (tgt := 1157) X dL_law_303 (by decide) (fun _ => ?_) (fun h => absurd rfl h)
  exact z_widen (by omega) (by omega) (KT V' PK' PI' M' w3 w4 h3 h4 hR')
set_option maxHeartbeats 4000000 in
set_option maxRecDepth 100000 in
theorem lc_now {p : Program} {l : Launch} {e : Env} {s : State} {m : MethodId} {args : Array Value} {below : List Frame} {meth : Method} {c : Code} {D : va_G} {cA : Nat → ClassId} {g : Nat → Nat} {A : Nat → Prop} {Q : State → Prop} (X : ZC p s m args meth c code 4 RL wsL_law D cA g A) (Y : ny s) {b L : Nat} {xs : Nat → Int32} (hX : va_X b L xs s s.heap) (hbl : b < s.heap.size) (hbA : ¬ A b) (hL : L ≤ 3072) {Rel : RelT} {hc hm : Nat} {AC : Nat → Nat → Nat} {am : Nat → Nat} (i : Nat) (hi : 6 * i + 6 ≤ L) (ST : St_now Rel) (V : Nat → Ob) (PK PI : PV) (M : Ob) (w1 w2 : va_W) (h1 : CW cA hc AC V PK PI w1) (h2 : MW cA hm am M w2) (hR : Rel V PK PI M) (KT : ∀ (V : Nat → Ob) (PK PI : PV) (M : Ob) (w1 w2 : va_W), CW cA hc AC V PK PI w1 → MW cA hm am M w2 → Rel V PK PI M → ZW p l e room_1 s m args below meth c D A 4 (95 + 28 * (i + 1)) (38338 + 823 * (i + 1)) Q (w1 ++ w2) [(0, .ref b), (1, .ref hc), (2, .ref hm), (3, .int (nI (6 * i)))] 1157 []) : ZW p l e room_1 s m args below meth c D A 4 (95 + 28 * i) (38338 + 823 * i) Q (w1 ++ w2) [(0, .ref b), (1, .ref hc), (2, .ref hm), (3, .int (nI (6 * i)))] 308 [] := by
  obtain ⟨V', PK', PI', M', r, hg, hh, hR'⟩ := ST V PK PI M (xs (6 * i + 1)) hR
  refine z_aload_n X dL_law_308 rfl 1 rfl ?_
  refine z_aload_n X dL_law_309 rfl 0 rfl ?_
  refine z_iload_n X dL_law_310 rfl 3 rfl ?_
  refine z_iconst (v := (1 : Int32)) X dL_law_311 (by decide) ?_
  refine z_iadd X dL_law_312 ?_
  refine z_nm (y := nI (6 * i + 1)) (nI_add (6 * i) 1).symm ?_
  refine z_sld X hX hbl hbA (k := 6 * i + 1) (by omega) (by omega) dL_law_313 ?_
  refine z_LC (As := [.int (xs (6 * i + 1))]) (rest := []) (rv := r) (C := RX11) (mc := 0) (ms := 0) X Y (cwV 1 X.2.2.2.2.1 gL_law_X11_now rfl rfl rfl (by decide +kernel) ⟨Nat.le_of_ble_eq_true rfl, Nat.le_of_ble_eq_true rfl⟩) (cw_recv h1) (fun sz => fc_now l D cA g hc AC V PK PI (xs (6 * i + 1)) V' PK' PI' r hg sz w1 h1) rfl rfl (Nat.le_of_ble_eq_true rfl) dL_law_314 ⟨by show _ + _ ≤ 600000; omega, by show _ + _ ≤ 7302250; omega⟩ (fun w3 h3 => ?_)
  refine z_aload_n X dL_law_317 rfl 2 rfl ?_
  refine z_aload_n X dL_law_318 rfl 0 rfl ?_
  refine z_iload_n X dL_law_319 rfl 3 rfl ?_
  refine z_iconst (v := (1 : Int32)) X dL_law_320 (by decide) ?_
  refine z_iadd X dL_law_321 ?_
  refine z_nm (y := nI (6 * i + 1)) (nI_add (6 * i) 1).symm ?_
  refine z_sld X hX hbl hbA (k := 6 * i + 1) (by omega) (by omega) dL_law_322 ?_
  refine z_perm List.perm_append_comm ?_
  refine z_LC (As := [.int (xs (6 * i + 1))]) (rest := [.int r]) (rv := r) (C := RX12) (mc := 0) (ms := 0) X Y (cwV 1 X.2.2.2.2.1 gL_law_X12_now rfl rfl rfl (by decide +kernel) ⟨Nat.le_of_ble_eq_true rfl, Nat.le_of_ble_eq_true rfl⟩) (mw_recv h2) (fun sz => fm_now l D cA g hm am M (xs (6 * i + 1)) M' r hh sz w2 h2) rfl rfl (Nat.le_of_ble_eq_true rfl) dL_law_323 ⟨by show _ + _ ≤ 600000; omega, by show _ + _ ≤ 7302250; omega⟩ (fun w4 h4 => ?_)
  refine z_perm List.perm_append_comm ?_
  refine z_icmp_eq (tgt := 1157) X dL_law_326 (by decide) (fun _ => ?_) (fun h => absurd rfl h)
  exact z_widen (by omega) (by omega) (KT V' PK' PI' M' w3 w4 h3 h4 hR')
set_option maxHeartbeats 4000000 in
set_option maxRecDepth 100000 in
theorem lc_item {p : Program} {l : Launch} {e : Env} {s : State} {m : MethodId} {args : Array Value} {below : List Frame} {meth : Method} {c : Code} {D : va_G} {cA : Nat → ClassId} {g : Nat → Nat} {A : Nat → Prop} {Q : State → Prop} (X : ZC p s m args meth c code 4 RL wsL_law D cA g A) (Y : ny s) {b L : Nat} {xs : Nat → Int32} (hX : va_X b L xs s s.heap) (hbl : b < s.heap.size) (hbA : ¬ A b) (hL : L ≤ 3072) {Rel : RelT} {hc hm : Nat} {AC : Nat → Nat → Nat} {am : Nat → Nat} (i : Nat) (hi : 6 * i + 6 ≤ L) (ST : St_item Rel) (V : Nat → Ob) (PK PI : PV) (M : Ob) (w1 w2 : va_W) (h1 : CW cA hc AC V PK PI w1) (h2 : MW cA hm am M w2) (hR : Rel V PK PI M) (KT : ∀ (V : Nat → Ob) (PK PI : PV) (M : Ob) (w1 w2 : va_W), CW cA hc AC V PK PI w1 → MW cA hm am M w2 → Rel V PK PI M → ZW p l e room_1 s m args below meth c D A 4 (95 + 28 * (i + 1)) (38338 + 823 * (i + 1)) Q (w1 ++ w2) [(0, .ref b), (1, .ref hc), (2, .ref hm), (3, .int (nI (6 * i)))] 1157 []) : ZW p l e room_1 s m args below meth c D A 4 (95 + 28 * i) (38338 + 823 * i) Q (w1 ++ w2) [(0, .ref b), (1, .ref hc), (2, .ref hm), (3, .int (nI (6 * i)))] 331 [] := by
  obtain ⟨V', PK', PI', M', r, hg, hh, hR'⟩ := ST V PK PI M (xs (6 * i + 1)) (xs (6 * i + 2)) hR
  refine z_aload_n X dL_law_331 rfl 1 rfl ?_
  refine z_aload_n X dL_law_332 rfl 0 rfl ?_
  refine z_iload_n X dL_law_333 rfl 3 rfl ?_
  refine z_iconst (v := (1 : Int32)) X dL_law_334 (by decide) ?_
  refine z_iadd X dL_law_335 ?_
  refine z_nm (y := nI (6 * i + 1)) (nI_add (6 * i) 1).symm ?_
  refine z_sld X hX hbl hbA (k := 6 * i + 1) (by omega) (by omega) dL_law_336 ?_
  refine z_aload_n X dL_law_337 rfl 0 rfl ?_
  refine z_iload_n X dL_law_338 rfl 3 rfl ?_
  refine z_iconst (v := (2 : Int32)) X dL_law_339 (by decide) ?_
  refine z_iadd X dL_law_340 ?_
  refine z_nm (y := nI (6 * i + 2)) (nI_add (6 * i) 2).symm ?_
  refine z_sld X hX hbl hbA (k := 6 * i + 2) (by omega) (by omega) dL_law_341 ?_
  refine z_LC (As := [.int (xs (6 * i + 1)), .int (xs (6 * i + 2))]) (rest := []) (rv := r) (C := RX11) (mc := 0) (ms := 0) X Y (cwV 2 X.2.2.2.2.1 gL_law_X11_item rfl rfl rfl (by decide +kernel) ⟨Nat.le_of_ble_eq_true rfl, Nat.le_of_ble_eq_true rfl⟩) (cw_recv h1) (fun sz => fc_item l D cA g hc AC V PK PI (xs (6 * i + 1)) (xs (6 * i + 2)) V' PK' PI' r hg sz w1 h1) rfl rfl (Nat.le_of_ble_eq_true rfl) dL_law_342 ⟨by show _ + _ ≤ 600000; omega, by show _ + _ ≤ 7302250; omega⟩ (fun w3 h3 => ?_)
  refine z_aload_n X dL_law_345 rfl 2 rfl ?_
  refine z_aload_n X dL_law_346 rfl 0 rfl ?_
  refine z_iload_n X dL_law_347 rfl 3 rfl ?_
  refine z_iconst (v := (1 : Int32)) X dL_law_348 (by decide) ?_
  refine z_iadd X dL_law_349 ?_
  refine z_nm (y := nI (6 * i + 1)) (nI_add (6 * i) 1).symm ?_
  refine z_sld X hX hbl hbA (k := 6 * i + 1) (by omega) (by omega) dL_law_350 ?_
  refine z_aload_n X dL_law_351 rfl 0 rfl ?_
  refine z_iload_n X dL_law_352 rfl 3 rfl ?_
  refine z_iconst (v := (2 : Int32)) X dL_law_353 (by decide) ?_
  refine z_iadd X dL_law_354 ?_
  refine z_nm (y := nI (6 * i + 2)) (nI_add (6 * i) 2).symm ?_
  refine z_sld X hX hbl hbA (k := 6 * i + 2) (by omega) (by omega) dL_law_355 ?_
  refine z_perm List.perm_append_comm ?_
  refine z_LC (As := [.int (xs (6 * i + 1)), .int (xs (6 * i + 2))]) (rest := [.int r]) (rv := r) (C := RX12) (mc := 0) (ms := 0) X Y (cwV 2 X.2.2.2.2.1 gL_law_X12_item_ rfl rfl rfl (by decide +kernel) ⟨Nat.le_of_ble_eq_true rfl, Nat.le_of_ble_eq_true rfl⟩) (mw_recv h2) (fun sz => fm_item l D cA g hm am M (xs (6 * i + 1)) (xs (6 * i + 2)) M' r hh sz w2 h2) rfl rfl (Nat.le_of_ble_eq_true rfl) dL_law_356 ⟨by show _ + _ ≤ 600000; omega, by show _ + _ ≤ 7302250; omega⟩ (fun w4 h4 => ?_)
  refine z_perm List.perm_append_comm ?_
  refine z_icmp_eq (tgt := 1157) X dL_law_359 (by decide) (fun _ => ?_) (fun h => absurd rfl h)
  exact z_widen (by omega) (by omega) (KT V' PK' PI' M' w3 w4 h3 h4 hR')
set_option maxHeartbeats 4000000 in
set_option maxRecDepth 100000 in
theorem lc_request {p : Program} {l : Launch} {e : Env} {s : State} {m : MethodId} {args : Array Value} {below : List Frame} {meth : Method} {c : Code} {D : va_G} {cA : Nat → ClassId} {g : Nat → Nat} {A : Nat → Prop} {Q : State → Prop} (X : ZC p s m args meth c code 4 RL wsL_law D cA g A) (Y : ny s) {b L : Nat} {xs : Nat → Int32} (hX : va_X b L xs s s.heap) (hbl : b < s.heap.size) (hbA : ¬ A b) (hL : L ≤ 3072) {Rel : RelT} {hc hm : Nat} {AC : Nat → Nat → Nat} {am : Nat → Nat} (i : Nat) (hi : 6 * i + 6 ≤ L) (ST : St_request Rel) (V : Nat → Ob) (PK PI : PV) (M : Ob) (w1 w2 : va_W) (h1 : CW cA hc AC V PK PI w1) (h2 : MW cA hm am M w2) (hR : Rel V PK PI M) (KT : ∀ (V : Nat → Ob) (PK PI : PV) (M : Ob) (w1 w2 : va_W), CW cA hc AC V PK PI w1 → MW cA hm am M w2 → Rel V PK PI M → ZW p l e room_1 s m args below meth c D A 4 (95 + 28 * (i + 1)) (38338 + 823 * (i + 1)) Q (w1 ++ w2) [(0, .ref b), (1, .ref hc), (2, .ref hm), (3, .int (nI (6 * i)))] 1157 []) : ZW p l e room_1 s m args below meth c D A 4 (95 + 28 * i) (38338 + 823 * i) Q (w1 ++ w2) [(0, .ref b), (1, .ref hc), (2, .ref hm), (3, .int (nI (6 * i)))] 364 [] := by
  obtain ⟨V', PK', PI', M', r, hg, hh, hR'⟩ := ST V PK PI M (xs (6 * i + 1)) hR
  refine z_aload_n X dL_law_364 rfl 1 rfl ?_
  refine z_aload_n X dL_law_365 rfl 0 rfl ?_
  refine z_iload_n X dL_law_366 rfl 3 rfl ?_
  refine z_iconst (v := (1 : Int32)) X dL_law_367 (by decide) ?_
  refine z_iadd X dL_law_368 ?_
  refine z_nm (y := nI (6 * i + 1)) (nI_add (6 * i) 1).symm ?_
  refine z_sld X hX hbl hbA (k := 6 * i + 1) (by omega) (by omega) dL_law_369 ?_
  refine z_LC (As := [.int (xs (6 * i + 1))]) (rest := []) (rv := r) (C := RX11) (mc := 28) (ms := 823) X Y (cwV 1 X.2.2.2.2.1 gL_law_X11_request rfl rfl rfl (by decide +kernel) ⟨Nat.le_of_ble_eq_true rfl, Nat.le_of_ble_eq_true rfl⟩) (cw_recv h1) (fun sz => fc_request l D cA g hc AC V PK PI (xs (6 * i + 1)) V' PK' PI' r hg sz w1 h1) rfl rfl (Nat.le_of_ble_eq_true rfl) dL_law_370 ⟨by show _ + _ ≤ 600000; omega, by show _ + _ ≤ 7302250; omega⟩ (fun w3 h3 => ?_)
  refine z_aload_n X dL_law_373 rfl 2 rfl ?_
  refine z_aload_n X dL_law_374 rfl 0 rfl ?_
  refine z_iload_n X dL_law_375 rfl 3 rfl ?_
  refine z_iconst (v := (1 : Int32)) X dL_law_376 (by decide) ?_
  refine z_iadd X dL_law_377 ?_
  refine z_nm (y := nI (6 * i + 1)) (nI_add (6 * i) 1).symm ?_
  refine z_sld X hX hbl hbA (k := 6 * i + 1) (by omega) (by omega) dL_law_378 ?_
  refine z_perm List.perm_append_comm ?_
  refine z_LC (As := [.int (xs (6 * i + 1))]) (rest := [.int r]) (rv := r) (C := RX12) (mc := 0) (ms := 0) X Y (cwV 1 X.2.2.2.2.1 gL_law_X12_request rfl rfl rfl (by decide +kernel) ⟨Nat.le_of_ble_eq_true rfl, Nat.le_of_ble_eq_true rfl⟩) (mw_recv h2) (fun sz => fm_request l D cA g hm am M (xs (6 * i + 1)) M' r hh sz w2 h2) rfl rfl (Nat.le_of_ble_eq_true rfl) dL_law_379 ⟨by show _ + _ ≤ 600000; omega, by show _ + _ ≤ 7302250; omega⟩ (fun w4 h4 => ?_)
  refine z_perm List.perm_append_comm ?_
  refine z_icmp_eq (tgt := 1157) X dL_law_382 (by decide) (fun _ => ?_) (fun h => absurd rfl h)
  exact z_widen (by omega) (by omega) (KT V' PK' PI' M' w3 w4 h3 h4 hR')
set_option maxHeartbeats 4000000 in
set_option maxRecDepth 100000 in
theorem lc_names {p : Program} {l : Launch} {e : Env} {s : State} {m : MethodId} {args : Array Value} {below : List Frame} {meth : Method} {c : Code} {D : va_G} {cA : Nat → ClassId} {g : Nat → Nat} {A : Nat → Prop} {Q : State → Prop} (X : ZC p s m args meth c code 4 RL wsL_law D cA g A) (Y : ny s) {b L : Nat} {xs : Nat → Int32} (hX : va_X b L xs s s.heap) (hbl : b < s.heap.size) (hbA : ¬ A b) (hL : L ≤ 3072) {Rel : RelT} {hc hm : Nat} {AC : Nat → Nat → Nat} {am : Nat → Nat} (i : Nat) (hi : 6 * i + 6 ≤ L) (ST : St_names Rel) (V : Nat → Ob) (PK PI : PV) (M : Ob) (w1 w2 : va_W) (h1 : CW cA hc AC V PK PI w1) (h2 : MW cA hm am M w2) (hR : Rel V PK PI M) (KT : ∀ (V : Nat → Ob) (PK PI : PV) (M : Ob) (w1 w2 : va_W), CW cA hc AC V PK PI w1 → MW cA hm am M w2 → Rel V PK PI M → ZW p l e room_1 s m args below meth c D A 4 (95 + 28 * (i + 1)) (38338 + 823 * (i + 1)) Q (w1 ++ w2) [(0, .ref b), (1, .ref hc), (2, .ref hm), (3, .int (nI (6 * i)))] 1157 []) : ZW p l e room_1 s m args below meth c D A 4 (95 + 28 * i) (38338 + 823 * i) Q (w1 ++ w2) [(0, .ref b), (1, .ref hc), (2, .ref hm), (3, .int (nI (6 * i)))] 387 [] := by
  obtain ⟨V', PK', PI', M', r, hg, hh, hR'⟩ := ST V PK PI M  hR
  refine z_aload_n X dL_law_387 rfl 1 rfl ?_
  refine z_LC (As := []) (rest := []) (rv := r) (C := RX11) (mc := 28) (ms := 823) X Y (cwV 0 X.2.2.2.2.1 gL_law_X11_names rfl rfl rfl (by decide +kernel) ⟨Nat.le_of_ble_eq_true rfl, Nat.le_of_ble_eq_true rfl⟩) (cw_recv h1) (fun sz => fc_names l D cA g hc AC V PK PI  V' PK' PI' r hg sz w1 h1) rfl rfl (Nat.le_of_ble_eq_true rfl) dL_law_388 ⟨by show _ + _ ≤ 600000; omega, by show _ + _ ≤ 7302250; omega⟩ (fun w3 h3 => ?_)
  refine z_aload_n X dL_law_391 rfl 2 rfl ?_
  refine z_perm List.perm_append_comm ?_
  refine z_LC (As := []) (rest := [.int r]) (rv := r) (C := RX12) (mc := 0) (ms := 0) X Y (cwV 0 X.2.2.2.2.1 gL_law_X12_names rfl rfl rfl (by decide +kernel) ⟨Nat.le_of_ble_eq_true rfl, Nat.le_of_ble_eq_true rfl⟩) (mw_recv h2) (fun sz => fm_names l D cA g hm am M  M' r hh sz w2 h2) rfl rfl (Nat.le_of_ble_eq_true rfl) dL_law_392 ⟨by show _ + _ ≤ 600000; omega, by show _ + _ ≤ 7302250; omega⟩ (fun w4 h4 => ?_)
  refine z_perm List.perm_append_comm ?_
  refine z_icmp_eq (tgt := 1157) X dL_law_395 (by decide) (fun _ => ?_) (fun h => absurd rfl h)
  exact z_widen (by omega) (by omega) (KT V' PK' PI' M' w3 w4 h3 h4 hR')
set_option maxHeartbeats 4000000 in
set_option maxRecDepth 100000 in
theorem lc_log {p : Program} {l : Launch} {e : Env} {s : State} {m : MethodId} {args : Array Value} {below : List Frame} {meth : Method} {c : Code} {D : va_G} {cA : Nat → ClassId} {g : Nat → Nat} {A : Nat → Prop} {Q : State → Prop} (X : ZC p s m args meth c code 4 RL wsL_law D cA g A) (Y : ny s) {b L : Nat} {xs : Nat → Int32} (hX : va_X b L xs s s.heap) (hbl : b < s.heap.size) (hbA : ¬ A b) (hL : L ≤ 3072) {Rel : RelT} {hc hm : Nat} {AC : Nat → Nat → Nat} {am : Nat → Nat} (i : Nat) (hi : 6 * i + 6 ≤ L) (ST : St_log Rel) (V : Nat → Ob) (PK PI : PV) (M : Ob) (w1 w2 : va_W) (h1 : CW cA hc AC V PK PI w1) (h2 : MW cA hm am M w2) (hR : Rel V PK PI M) (KT : ∀ (V : Nat → Ob) (PK PI : PV) (M : Ob) (w1 w2 : va_W), CW cA hc AC V PK PI w1 → MW cA hm am M w2 → Rel V PK PI M → ZW p l e room_1 s m args below meth c D A 4 (95 + 28 * (i + 1)) (38338 + 823 * (i + 1)) Q (w1 ++ w2) [(0, .ref b), (1, .ref hc), (2, .ref hm), (3, .int (nI (6 * i)))] 1157 []) : ZW p l e room_1 s m args below meth c D A 4 (95 + 28 * i) (38338 + 823 * i) Q (w1 ++ w2) [(0, .ref b), (1, .ref hc), (2, .ref hm), (3, .int (nI (6 * i)))] 400 [] := by
  obtain ⟨V', PK', PI', M', r, hg, hh, hR'⟩ := ST V PK PI M (xs (6 * i + 1)) (xs (6 * i + 2)) hR
  refine z_aload_n X dL_law_400 rfl 1 rfl ?_
  refine z_aload_n X dL_law_401 rfl 0 rfl ?_
  refine z_iload_n X dL_law_402 rfl 3 rfl ?_
  refine z_iconst (v := (1 : Int32)) X dL_law_403 (by decide) ?_
  refine z_iadd X dL_law_404 ?_
  refine z_nm (y := nI (6 * i + 1)) (nI_add (6 * i) 1).symm ?_
  refine z_sld X hX hbl hbA (k := 6 * i + 1) (by omega) (by omega) dL_law_405 ?_
  refine z_aload_n X dL_law_406 rfl 0 rfl ?_
  refine z_iload_n X dL_law_407 rfl 3 rfl ?_
  refine z_iconst (v := (2 : Int32)) X dL_law_408 (by decide) ?_
  refine z_iadd X dL_law_409 ?_
  refine z_nm (y := nI (6 * i + 2)) (nI_add (6 * i) 2).symm ?_
  refine z_sld X hX hbl hbA (k := 6 * i + 2) (by omega) (by omega) dL_law_410 ?_
  refine z_LC (As := [.int (xs (6 * i + 1)), .int (xs (6 * i + 2))]) (rest := []) (rv := r) (C := RX11) (mc := 0) (ms := 0) X Y (cwV 2 X.2.2.2.2.1 gL_law_X11_log rfl rfl rfl (by decide +kernel) ⟨Nat.le_of_ble_eq_true rfl, Nat.le_of_ble_eq_true rfl⟩) (cw_recv h1) (fun sz => fc_log l D cA g hc AC V PK PI (xs (6 * i + 1)) (xs (6 * i + 2)) V' PK' PI' r hg sz w1 h1) rfl rfl (Nat.le_of_ble_eq_true rfl) dL_law_411 ⟨by show _ + _ ≤ 600000; omega, by show _ + _ ≤ 7302250; omega⟩ (fun w3 h3 => ?_)
  refine z_aload_n X dL_law_414 rfl 2 rfl ?_
  refine z_aload_n X dL_law_415 rfl 0 rfl ?_
  refine z_iload_n X dL_law_416 rfl 3 rfl ?_
  refine z_iconst (v := (1 : Int32)) X dL_law_417 (by decide) ?_
  refine z_iadd X dL_law_418 ?_
  refine z_nm (y := nI (6 * i + 1)) (nI_add (6 * i) 1).symm ?_
  refine z_sld X hX hbl hbA (k := 6 * i + 1) (by omega) (by omega) dL_law_419 ?_
  refine z_aload_n X dL_law_420 rfl 0 rfl ?_
  refine z_iload_n X dL_law_421 rfl 3 rfl ?_
  refine z_iconst (v := (2 : Int32)) X dL_law_422 (by decide) ?_
  refine z_iadd X dL_law_423 ?_
  refine z_nm (y := nI (6 * i + 2)) (nI_add (6 * i) 2).symm ?_
  refine z_sld X hX hbl hbA (k := 6 * i + 2) (by omega) (by omega) dL_law_424 ?_
  refine z_perm List.perm_append_comm ?_
  refine z_LC (As := [.int (xs (6 * i + 1)), .int (xs (6 * i + 2))]) (rest := [.int r]) (rv := r) (C := RX12) (mc := 0) (ms := 0) X Y (cwV 2 X.2.2.2.2.1 gL_law_X12_log rfl rfl rfl (by decide +kernel) ⟨Nat.le_of_ble_eq_true rfl, Nat.le_of_ble_eq_true rfl⟩) (mw_recv h2) (fun sz => fm_log l D cA g hm am M (xs (6 * i + 1)) (xs (6 * i + 2)) M' r hh sz w2 h2) rfl rfl (Nat.le_of_ble_eq_true rfl) dL_law_425 ⟨by show _ + _ ≤ 600000; omega, by show _ + _ ≤ 7302250; omega⟩ (fun w4 h4 => ?_)
  refine z_perm List.perm_append_comm ?_
  refine z_icmp_eq (tgt := 1157) X dL_law_428 (by decide) (fun _ => ?_) (fun h => absurd rfl h)
  exact z_widen (by omega) (by omega) (KT V' PK' PI' M' w3 w4 h3 h4 hR')
set_option maxHeartbeats 4000000 in
set_option maxRecDepth 100000 in
theorem lc_room {p : Program} {l : Launch} {e : Env} {s : State} {m : MethodId} {args : Array Value} {below : List Frame} {meth : Method} {c : Code} {D : va_G} {cA : Nat → ClassId} {g : Nat → Nat} {A : Nat → Prop} {Q : State → Prop} (X : ZC p s m args meth c code 4 RL wsL_law D cA g A) (Y : ny s) {b L : Nat} {xs : Nat → Int32} (hX : va_X b L xs s s.heap) (hbl : b < s.heap.size) (hbA : ¬ A b) (hL : L ≤ 3072) {Rel : RelT} {hc hm : Nat} {AC : Nat → Nat → Nat} {am : Nat → Nat} (i : Nat) (hi : 6 * i + 6 ≤ L) (ST : St_room Rel) (V : Nat → Ob) (PK PI : PV) (M : Ob) (w1 w2 : va_W) (h1 : CW cA hc AC V PK PI w1) (h2 : MW cA hm am M w2) (hR : Rel V PK PI M) (KT : ∀ (V : Nat → Ob) (PK PI : PV) (M : Ob) (w1 w2 : va_W), CW cA hc AC V PK PI w1 → MW cA hm am M w2 → Rel V PK PI M → ZW p l e room_1 s m args below meth c D A 4 (95 + 28 * (i + 1)) (38338 + 823 * (i + 1)) Q (w1 ++ w2) [(0, .ref b), (1, .ref hc), (2, .ref hm), (3, .int (nI (6 * i)))] 1157 []) : ZW p l e room_1 s m args below meth c D A 4 (95 + 28 * i) (38338 + 823 * i) Q (w1 ++ w2) [(0, .ref b), (1, .ref hc), (2, .ref hm), (3, .int (nI (6 * i)))] 433 [] := by
  obtain ⟨V', PK', PI', M', r, hg, hh, hR'⟩ := ST V PK PI M (xs (6 * i + 1)) hR
  refine z_aload_n X dL_law_433 rfl 1 rfl ?_
  refine z_aload_n X dL_law_434 rfl 0 rfl ?_
  refine z_iload_n X dL_law_435 rfl 3 rfl ?_
  refine z_iconst (v := (1 : Int32)) X dL_law_436 (by decide) ?_
  refine z_iadd X dL_law_437 ?_
  refine z_nm (y := nI (6 * i + 1)) (nI_add (6 * i) 1).symm ?_
  refine z_sld X hX hbl hbA (k := 6 * i + 1) (by omega) (by omega) dL_law_438 ?_
  refine z_LC (As := [.int (xs (6 * i + 1))]) (rest := []) (rv := r) (C := RX11) (mc := 28) (ms := 823) X Y (cwV 1 X.2.2.2.2.1 gL_law_X11_room rfl rfl rfl (by decide +kernel) ⟨Nat.le_of_ble_eq_true rfl, Nat.le_of_ble_eq_true rfl⟩) (cw_recv h1) (fun sz => fc_room l D cA g hc AC V PK PI (xs (6 * i + 1)) V' PK' PI' r hg sz w1 h1) rfl rfl (Nat.le_of_ble_eq_true rfl) dL_law_439 ⟨by show _ + _ ≤ 600000; omega, by show _ + _ ≤ 7302250; omega⟩ (fun w3 h3 => ?_)
  refine z_aload_n X dL_law_442 rfl 2 rfl ?_
  refine z_aload_n X dL_law_443 rfl 0 rfl ?_
  refine z_iload_n X dL_law_444 rfl 3 rfl ?_
  refine z_iconst (v := (1 : Int32)) X dL_law_445 (by decide) ?_
  refine z_iadd X dL_law_446 ?_
  refine z_nm (y := nI (6 * i + 1)) (nI_add (6 * i) 1).symm ?_
  refine z_sld X hX hbl hbA (k := 6 * i + 1) (by omega) (by omega) dL_law_447 ?_
  refine z_perm List.perm_append_comm ?_
  refine z_LC (As := [.int (xs (6 * i + 1))]) (rest := [.int r]) (rv := r) (C := RX12) (mc := 0) (ms := 0) X Y (cwV 1 X.2.2.2.2.1 gL_law_X12_room rfl rfl rfl (by decide +kernel) ⟨Nat.le_of_ble_eq_true rfl, Nat.le_of_ble_eq_true rfl⟩) (mw_recv h2) (fun sz => fm_room l D cA g hm am M (xs (6 * i + 1)) M' r hh sz w2 h2) rfl rfl (Nat.le_of_ble_eq_true rfl) dL_law_448 ⟨by show _ + _ ≤ 600000; omega, by show _ + _ ≤ 7302250; omega⟩ (fun w4 h4 => ?_)
  refine z_perm List.perm_append_comm ?_
  refine z_icmp_eq (tgt := 1157) X dL_law_451 (by decide) (fun _ => ?_) (fun h => absurd rfl h)
  exact z_widen (by omega) (by omega) (KT V' PK' PI' M' w3 w4 h3 h4 hR')
set_option maxHeartbeats 4000000 in
set_option maxRecDepth 100000 in
theorem lc_rule {p : Program} {l : Launch} {e : Env} {s : State} {m : MethodId} {args : Array Value} {below : List Frame} {meth : Method} {c : Code} {D : va_G} {cA : Nat → ClassId} {g : Nat → Nat} {A : Nat → Prop} {Q : State → Prop} (X : ZC p s m args meth c code 4 RL wsL_law D cA g A) (Y : ny s) {b L : Nat} {xs : Nat → Int32} (hX : va_X b L xs s s.heap) (hbl : b < s.heap.size) (hbA : ¬ A b) (hL : L ≤ 3072) {Rel : RelT} {hc hm : Nat} {AC : Nat → Nat → Nat} {am : Nat → Nat} (i : Nat) (hi : 6 * i + 6 ≤ L) (ST : St_rule Rel) (V : Nat → Ob) (PK PI : PV) (M : Ob) (w1 w2 : va_W) (h1 : CW cA hc AC V PK PI w1) (h2 : MW cA hm am M w2) (hR : Rel V PK PI M) (KT : ∀ (V : Nat → Ob) (PK PI : PV) (M : Ob) (w1 w2 : va_W), CW cA hc AC V PK PI w1 → MW cA hm am M w2 → Rel V PK PI M → ZW p l e room_1 s m args below meth c D A 4 (95 + 28 * (i + 1)) (38338 + 823 * (i + 1)) Q (w1 ++ w2) [(0, .ref b), (1, .ref hc), (2, .ref hm), (3, .int (nI (6 * i)))] 1157 []) : ZW p l e room_1 s m args below meth c D A 4 (95 + 28 * i) (38338 + 823 * i) Q (w1 ++ w2) [(0, .ref b), (1, .ref hc), (2, .ref hm), (3, .int (nI (6 * i)))] 456 [] := by
  obtain ⟨V', PK', PI', M', r, hg, hh, hR'⟩ := ST V PK PI M (xs (6 * i + 1)) hR
  refine z_aload_n X dL_law_456 rfl 1 rfl ?_
  refine z_aload_n X dL_law_457 rfl 0 rfl ?_
  refine z_iload_n X dL_law_458 rfl 3 rfl ?_
  refine z_iconst (v := (1 : Int32)) X dL_law_459 (by decide) ?_
  refine z_iadd X dL_law_460 ?_
  refine z_nm (y := nI (6 * i + 1)) (nI_add (6 * i) 1).symm ?_
  refine z_sld X hX hbl hbA (k := 6 * i + 1) (by omega) (by omega) dL_law_461 ?_
  refine z_LC (As := [.int (xs (6 * i + 1))]) (rest := []) (rv := r) (C := RX11) (mc := 28) (ms := 823) X Y (cwV 1 X.2.2.2.2.1 gL_law_X11_rule rfl rfl rfl (by decide +kernel) ⟨Nat.le_of_ble_eq_true rfl, Nat.le_of_ble_eq_true rfl⟩) (cw_recv h1) (fun sz => fc_rule l D cA g hc AC V PK PI (xs (6 * i + 1)) V' PK' PI' r hg sz w1 h1) rfl rfl (Nat.le_of_ble_eq_true rfl) dL_law_462 ⟨by show _ + _ ≤ 600000; omega, by show _ + _ ≤ 7302250; omega⟩ (fun w3 h3 => ?_)
  refine z_aload_n X dL_law_465 rfl 2 rfl ?_
  refine z_aload_n X dL_law_466 rfl 0 rfl ?_
  refine z_iload_n X dL_law_467 rfl 3 rfl ?_
  refine z_iconst (v := (1 : Int32)) X dL_law_468 (by decide) ?_
  refine z_iadd X dL_law_469 ?_
  refine z_nm (y := nI (6 * i + 1)) (nI_add (6 * i) 1).symm ?_
  refine z_sld X hX hbl hbA (k := 6 * i + 1) (by omega) (by omega) dL_law_470 ?_
  refine z_perm List.perm_append_comm ?_
  refine z_LC (As := [.int (xs (6 * i + 1))]) (rest := [.int r]) (rv := r) (C := RX12) (mc := 0) (ms := 0) X Y (cwV 1 X.2.2.2.2.1 gL_law_X12_rule rfl rfl rfl (by decide +kernel) ⟨Nat.le_of_ble_eq_true rfl, Nat.le_of_ble_eq_true rfl⟩) (mw_recv h2) (fun sz => fm_rule l D cA g hm am M (xs (6 * i + 1)) M' r hh sz w2 h2) rfl rfl (Nat.le_of_ble_eq_true rfl) dL_law_471 ⟨by show _ + _ ≤ 600000; omega, by show _ + _ ≤ 7302250; omega⟩ (fun w4 h4 => ?_)
  refine z_perm List.perm_append_comm ?_
  refine z_icmp_eq (tgt := 1157) X dL_law_474 (by decide) (fun _ => ?_) (fun h => absurd rfl h)
  exact z_widen (by omega) (by omega) (KT V' PK' PI' M' w3 w4 h3 h4 hR')
set_option maxHeartbeats 4000000 in
set_option maxRecDepth 100000 in
theorem lc_carry {p : Program} {l : Launch} {e : Env} {s : State} {m : MethodId} {args : Array Value} {below : List Frame} {meth : Method} {c : Code} {D : va_G} {cA : Nat → ClassId} {g : Nat → Nat} {A : Nat → Prop} {Q : State → Prop} (X : ZC p s m args meth c code 4 RL wsL_law D cA g A) (Y : ny s) {b L : Nat} {xs : Nat → Int32} (hX : va_X b L xs s s.heap) (hbl : b < s.heap.size) (hbA : ¬ A b) (hL : L ≤ 3072) {Rel : RelT} {hc hm : Nat} {AC : Nat → Nat → Nat} {am : Nat → Nat} (i : Nat) (hi : 6 * i + 6 ≤ L) (ST : St_carry Rel) (V : Nat → Ob) (PK PI : PV) (M : Ob) (w1 w2 : va_W) (h1 : CW cA hc AC V PK PI w1) (h2 : MW cA hm am M w2) (hR : Rel V PK PI M) (KT : ∀ (V : Nat → Ob) (PK PI : PV) (M : Ob) (w1 w2 : va_W), CW cA hc AC V PK PI w1 → MW cA hm am M w2 → Rel V PK PI M → ZW p l e room_1 s m args below meth c D A 4 (95 + 28 * (i + 1)) (38338 + 823 * (i + 1)) Q (w1 ++ w2) [(0, .ref b), (1, .ref hc), (2, .ref hm), (3, .int (nI (6 * i)))] 1157 []) : ZW p l e room_1 s m args below meth c D A 4 (95 + 28 * i) (38338 + 823 * i) Q (w1 ++ w2) [(0, .ref b), (1, .ref hc), (2, .ref hm), (3, .int (nI (6 * i)))] 479 [] := by
  obtain ⟨V', PK', PI', M', r, hg, hh, hR'⟩ := ST V PK PI M (xs (6 * i + 1)) (xs (6 * i + 2)) hR
  refine z_aload_n X dL_law_479 rfl 1 rfl ?_
  refine z_aload_n X dL_law_480 rfl 0 rfl ?_
  refine z_iload_n X dL_law_481 rfl 3 rfl ?_
  refine z_iconst (v := (1 : Int32)) X dL_law_482 (by decide) ?_
  refine z_iadd X dL_law_483 ?_
  refine z_nm (y := nI (6 * i + 1)) (nI_add (6 * i) 1).symm ?_
  refine z_sld X hX hbl hbA (k := 6 * i + 1) (by omega) (by omega) dL_law_484 ?_
  refine z_aload_n X dL_law_485 rfl 0 rfl ?_
  refine z_iload_n X dL_law_486 rfl 3 rfl ?_
  refine z_iconst (v := (2 : Int32)) X dL_law_487 (by decide) ?_
  refine z_iadd X dL_law_488 ?_
  refine z_nm (y := nI (6 * i + 2)) (nI_add (6 * i) 2).symm ?_
  refine z_sld X hX hbl hbA (k := 6 * i + 2) (by omega) (by omega) dL_law_489 ?_
  refine z_LC (As := [.int (xs (6 * i + 1)), .int (xs (6 * i + 2))]) (rest := []) (rv := r) (C := RX11) (mc := 28) (ms := 823) X Y (cwV 2 X.2.2.2.2.1 gL_law_X11_carry rfl rfl rfl (by decide +kernel) ⟨Nat.le_of_ble_eq_true rfl, Nat.le_of_ble_eq_true rfl⟩) (cw_recv h1) (fun sz => fc_carry l D cA g hc AC V PK PI (xs (6 * i + 1)) (xs (6 * i + 2)) V' PK' PI' r hg sz w1 h1) rfl rfl (Nat.le_of_ble_eq_true rfl) dL_law_490 ⟨by show _ + _ ≤ 600000; omega, by show _ + _ ≤ 7302250; omega⟩ (fun w3 h3 => ?_)
  refine z_aload_n X dL_law_493 rfl 2 rfl ?_
  refine z_aload_n X dL_law_494 rfl 0 rfl ?_
  refine z_iload_n X dL_law_495 rfl 3 rfl ?_
  refine z_iconst (v := (1 : Int32)) X dL_law_496 (by decide) ?_
  refine z_iadd X dL_law_497 ?_
  refine z_nm (y := nI (6 * i + 1)) (nI_add (6 * i) 1).symm ?_
  refine z_sld X hX hbl hbA (k := 6 * i + 1) (by omega) (by omega) dL_law_498 ?_
  refine z_aload_n X dL_law_499 rfl 0 rfl ?_
  refine z_iload_n X dL_law_500 rfl 3 rfl ?_
  refine z_iconst (v := (2 : Int32)) X dL_law_501 (by decide) ?_
  refine z_iadd X dL_law_502 ?_
  refine z_nm (y := nI (6 * i + 2)) (nI_add (6 * i) 2).symm ?_
  refine z_sld X hX hbl hbA (k := 6 * i + 2) (by omega) (by omega) dL_law_503 ?_
  refine z_perm List.perm_append_comm ?_
  refine z_LC (As := [.int (xs (6 * i + 1)), .int (xs (6 * i + 2))]) (rest := [.int r]) (rv := r) (C := RX12) (mc := 0) (ms := 0) X Y (cwV 2 X.2.2.2.2.1 gL_law_X12_carry rfl rfl rfl (by decide +kernel) ⟨Nat.le_of_ble_eq_true rfl, Nat.le_of_ble_eq_true rfl⟩) (mw_recv h2) (fun sz => fm_carry l D cA g hm am M (xs (6 * i + 1)) (xs (6 * i + 2)) M' r hh sz w2 h2) rfl rfl (Nat.le_of_ble_eq_true rfl) dL_law_504 ⟨by show _ + _ ≤ 600000; omega, by show _ + _ ≤ 7302250; omega⟩ (fun w4 h4 => ?_)
  refine z_perm List.perm_append_comm ?_
  refine z_icmp_eq (tgt := 1157) X dL_law_507 (by decide) (fun _ => ?_) (fun h => absurd rfl h)
  exact z_widen (by omega) (by omega) (KT V' PK' PI' M' w3 w4 h3 h4 hR')
set_option maxHeartbeats 4000000 in
set_option maxRecDepth 100000 in
theorem lc_gate {p : Program} {l : Launch} {e : Env} {s : State} {m : MethodId} {args : Array Value} {below : List Frame} {meth : Method} {c : Code} {D : va_G} {cA : Nat → ClassId} {g : Nat → Nat} {A : Nat → Prop} {Q : State → Prop} (X : ZC p s m args meth c code 4 RL wsL_law D cA g A) (Y : ny s) {b L : Nat} {xs : Nat → Int32} (hX : va_X b L xs s s.heap) (hbl : b < s.heap.size) (hbA : ¬ A b) (hL : L ≤ 3072) {Rel : RelT} {hc hm : Nat} {AC : Nat → Nat → Nat} {am : Nat → Nat} (i : Nat) (hi : 6 * i + 6 ≤ L) (ST : St_gate Rel) (V : Nat → Ob) (PK PI : PV) (M : Ob) (w1 w2 : va_W) (h1 : CW cA hc AC V PK PI w1) (h2 : MW cA hm am M w2) (hR : Rel V PK PI M) (KT : ∀ (V : Nat → Ob) (PK PI : PV) (M : Ob) (w1 w2 : va_W), CW cA hc AC V PK PI w1 → MW cA hm am M w2 → Rel V PK PI M → ZW p l e room_1 s m args below meth c D A 4 (95 + 28 * (i + 1)) (38338 + 823 * (i + 1)) Q (w1 ++ w2) [(0, .ref b), (1, .ref hc), (2, .ref hm), (3, .int (nI (6 * i)))] 1157 []) : ZW p l e room_1 s m args below meth c D A 4 (95 + 28 * i) (38338 + 823 * i) Q (w1 ++ w2) [(0, .ref b), (1, .ref hc), (2, .ref hm), (3, .int (nI (6 * i)))] 512 [] := by
  obtain ⟨V', PK', PI', M', r, hg, hh, hR'⟩ := ST V PK PI M (xs (6 * i + 1)) hR
  refine z_aload_n X dL_law_512 rfl 1 rfl ?_
  refine z_aload_n X dL_law_513 rfl 0 rfl ?_
  refine z_iload_n X dL_law_514 rfl 3 rfl ?_
  refine z_iconst (v := (1 : Int32)) X dL_law_515 (by decide) ?_
  refine z_iadd X dL_law_516 ?_
  refine z_nm (y := nI (6 * i + 1)) (nI_add (6 * i) 1).symm ?_
  refine z_sld X hX hbl hbA (k := 6 * i + 1) (by omega) (by omega) dL_law_517 ?_
  refine z_LC (As := [.int (xs (6 * i + 1))]) (rest := []) (rv := r) (C := RX11) (mc := 0) (ms := 0) X Y (cwV 1 X.2.2.2.2.1 gL_law_X11_gate rfl rfl rfl (by decide +kernel) ⟨Nat.le_of_ble_eq_true rfl, Nat.le_of_ble_eq_true rfl⟩) (cw_recv h1) (fun sz => fc_gate l D cA g hc AC V PK PI (xs (6 * i + 1)) V' PK' PI' r hg sz w1 h1) rfl rfl (Nat.le_of_ble_eq_true rfl) dL_law_518 ⟨by show _ + _ ≤ 600000; omega, by show _ + _ ≤ 7302250; omega⟩ (fun w3 h3 => ?_)
  refine z_aload_n X dL_law_521 rfl 2 rfl ?_
  refine z_aload_n X dL_law_522 rfl 0 rfl ?_
  refine z_iload_n X dL_law_523 rfl 3 rfl ?_
  refine z_iconst (v := (1 : Int32)) X dL_law_524 (by decide) ?_
  refine z_iadd X dL_law_525 ?_
  refine z_nm (y := nI (6 * i + 1)) (nI_add (6 * i) 1).symm ?_
  refine z_sld X hX hbl hbA (k := 6 * i + 1) (by omega) (by omega) dL_law_526 ?_
  refine z_perm List.perm_append_comm ?_
  refine z_LC (As := [.int (xs (6 * i + 1))]) (rest := [.int r]) (rv := r) (C := RX12) (mc := 0) (ms := 0) X Y (cwV 1 X.2.2.2.2.1 gL_law_X12_gate rfl rfl rfl (by decide +kernel) ⟨Nat.le_of_ble_eq_true rfl, Nat.le_of_ble_eq_true rfl⟩) (mw_recv h2) (fun sz => fm_gate l D cA g hm am M (xs (6 * i + 1)) M' r hh sz w2 h2) rfl rfl (Nat.le_of_ble_eq_true rfl) dL_law_527 ⟨by show _ + _ ≤ 600000; omega, by show _ + _ ≤ 7302250; omega⟩ (fun w4 h4 => ?_)
  refine z_perm List.perm_append_comm ?_
  refine z_icmp_eq (tgt := 1157) X dL_law_530 (by decide) (fun _ => ?_) (fun h => absurd rfl h)
  exact z_widen (by omega) (by omega) (KT V' PK' PI' M' w3 w4 h3 h4 hR')
