theorem Met.ofWF {l : Launch} {y : MethodName} {ws ws' : List Cond} {rm : Room} {Pc : Array Value → State → Prop} {Qc : Array Value → State → Outcome → State → Prop} {mc ms : Nat} {free : Addr → Prop} {cc : ByteArray} {maxL : Nat} {ret : Option FieldType}
    (hy : plainFor y = true) (hw : ws = Cond.code y cc maxL ret :: ws')
    (body : ∀ p e s m args below meth c s₁, BodyLoose p l y (headSpec ws rm) cc maxL ret e s m args below meth c s₁ → c.maxLocals = maxL → Pc args s →
      W p l e (headSpec ws rm).room s m args below meth c s.heap [] 0 0 (MQ below Qc args s mc ms free) (entryFrame m args maxL)) : Met l y ws rm Pc Qc mc ms free := by
  refine MetFree.of_bodySF (code := cc) (maxLocals := maxL) (ret := ret) hy ?_ ?_
  · intro args s m h hn
    obtain ⟨meth, c, h1, h2, h3, h4, h5, h6, -, -⟩ := Cond.code_spec hn (atoms_spec (ws := ws) h _ (by rw [hw]; exact List.mem_cons_self))
    exact ⟨meth, c, h1, h2, h3, h4, h5, h6⟩
  · intro p e s m args below meth c s₁ B hml hP _
    have hh0 : s₁.heap = s.heap := by rw [B.state]; rfl
    obtain ⟨t, a1, o, b1, b2, b3⟩ := body p e s m args below meth c s₁ B hml hP s₁ hh0 (Stand.of_body B)
    exact ⟨t, o, a1, b1, b2, ⟨b3.1, b3.2⟩⟩

section ZS
variable {p : Program} {l : Launch} {e : Env} {R : Room} {s : State} {m : MethodId} {args : Array Value} {below : List Frame} {meth : Method} {c : Code} {cc : ByteArray} {nL cells slots : Nat} {own : String} {Ts : List Cond} {D : va_G} {cA : Nat → ClassId} {g : Nat → Nat} {A : Nat → Prop} {Q : State → Prop} {ws : va_W} {lv : List (Nat × Value)} {pc : Nat} {st : List Value}
theorem z_startF {y : MethodName} {wsy wsy' : List Cond} {rm : Room} {Qc : Nat → Array Value → State → Outcome → State → Prop} {free : Nat → Addr → Prop} {mc ms : Nat} {maxL : Nat} {ret : Option FieldType} {av : List Value} {w0 : va_W} {lv0 : List (Nat × Value)} {sz : Nat}
    (hy : plainFor y = true) (hw : wsy = Cond.code y cc maxL ret :: wsy') (hlv : lv_args 0 av = lv0) (hle : (lg_sl av).length ≤ maxL)
    (body : ∀ (p : Program) (e : Env) (R : Room) (s : State) (m : MethodId) (args : Array Value) (below : List Frame) (meth : Method) (c : Code) (A : Nat → Prop) (Q : State → Prop), R = rm → A = va_A w0 s.heap.size → Q = MQ below (Qc s.heap.size) args s mc ms (free s.heap.size) → ZC p s m args meth c cc maxL y.cls wsy D cA g A → meth.sig.returnType = ret → (y.name = "<init>" → meth.name = "<init>") → ZW p l e R s m args below meth c D A maxL 0 0 Q w0 lv0 0 []) :
    Met l y wsy rm (va_Pc av (PreW D cA g sz w0)) (Qc sz) mc ms (free sz) := by
  refine Met.ofWF (cc := cc) (maxL := maxL) (ret := ret) hy hw ?_
  intro p e s m args below meth c s₁ B hml hv
  obtain ⟨rfl, hsz, hP, hK, hD0, hX⟩ := hv
  subst hsz
  have hl := lv_entry av (n := maxL) hle
  rw [hlv] at hl
  rw [lg_entry_eq]
  exact body p e _ s m _ below meth c _ _ rfl rfl rfl ⟨B.exec, B.bytes, hml, findClass_of_methodNamed B.named, atoms_spec (ws := wsy) B.pre, hK, fun q h => Or.inr h, B.notSynchronized, hX⟩ B.returns (fun h => by rw [← h]; exact (name_of_methodNamed B.named B.method).1) s.heap [] _ hP hD0.self va_S.rf hl

theorem z_lds (X : ZC p s m args meth c cc nL own Ts D cA g A) {index i : Nat} (hi : i < 7) (ho : own = "TwoTierStore$Reader") (hx : sxI.getD i 0 = index) (hdg : decode cc pc = .ok (.ldc index, 2)) (k : ZW p l e R s m args below meth c D A nL cells slots Q ws lv (pc + 2) (.ref (g (1 + i)) :: st)) : ZW p l e R s m args below meth c D A nL cells slots Q ws lv pc st := fun H locs ls hP hD hS hl => va_ldcS (tx := sxT.getD i "") X.1 X.2.1 X.2.2.2.1 (by rw [ho, ← hx]; exact X.2.2.2.2.2.2.2.2.2.2.2.2.2 i hi) hdg (k H locs ls hP hD hS hl)
theorem z_sval (X : ZC p s m args meth c cc nL own Ts D cA g A) {index : Nat} (i : Nat) (hi : i < 7) (hk : Cond.fieldLink own index "java/lang/String" "value" "[B" ∈ Ts) (hdg : decode cc pc = .ok (.getfield index, 3)) (k : ZW p l e R s m args below meth c D A nL cells slots Q ws lv (pc + 3) (.ref (g (10 + i)) :: st)) : ZW p l e R s m args below meth c D A nL cells slots Q ws lv pc (.ref (g (1 + i)) :: st) := fun H locs ls hP hD hS hl => vk_getf X.1 X.2.1 (X.2.2.2.2.2.2.2.2.2.2.2.2.1.1 i hi).2.2.1 hS X.2.2.2.1 (X.2.2.2.2.1 _ hk) (fun _ h => h) hdg (k H locs ls hP hD hS hl)
theorem z_scod (X : ZC p s m args meth c cc nL own Ts D cA g A) {index : Nat} (i : Nat) (hi : i < 7) (hk : Cond.fieldLink own index "java/lang/String" "coder" "B" ∈ Ts) (hdg : decode cc pc = .ok (.getfield index, 3)) (k : ZW p l e R s m args below meth c D A nL cells slots Q ws lv (pc + 3) (.int 0 :: st)) : ZW p l e R s m args below meth c D A nL cells slots Q ws lv pc (.ref (g (1 + i)) :: st) := fun H locs ls hP hD hS hl => vk_getf X.1 X.2.1 (X.2.2.2.2.2.2.2.2.2.2.2.2.1.1 i hi).2.1 hS X.2.2.2.1 (X.2.2.2.2.1 _ hk) (fun _ h => h) hdg (k H locs ls hP hD hS hl)
theorem z_slen (X : ZC p s m args meth c cc nL own Ts D cA g A) (i : Nat) (hi : i < 7) {v : Int32} (hv : Int32.ofNat (sxL.getD i 0) = v) (hdg : decode cc pc = .ok (.arraylength, 1)) (k : ZW p l e R s m args below meth c D A nL cells slots Q ws lv (pc + 1) (.int v :: st)) : ZW p l e R s m args below meth c D A nL cells slots Q ws lv pc (.ref (g (10 + i)) :: st) := fun H locs ls hP hD hS hl => va_tlen X.1 X.2.1 (X.2.2.2.2.2.2.2.2.2.2.2.2.1.1 i hi).2.2.2 hS hv hdg (k H locs ls hP hD hS hl)
theorem z_sbald (X : ZC p s m args meth c cc nL own Ts D cA g A) (i : Nat) (hi : i < 7) {j : Int32} (hj : vp_in j (sxL.getD i 0)) (hdg : decode cc pc = .ok (.baload, 1)) (k : ZW p l e R s m args below meth c D A nL cells slots Q ws lv (pc + 1) (.int ((sxB.getD i []).getD j.toNatClampNeg 0) :: st)) : ZW p l e R s m args below meth c D A nL cells slots Q ws lv pc (.int j :: .ref (g (10 + i)) :: st) := fun H locs ls hP hD hS hl => va_tb X.1 X.2.1 (X.2.2.2.2.2.2.2.2.2.2.2.2.1.1 i hi).2.2.2 hS hj rfl hdg (k H locs ls hP hD hS hl)
theorem z_cs (X : ZC p s m args meth c cc nL own Ts D cA g A) {index : Nat} (hk : Cond.fieldLink own index "java/lang/String" "COMPACT_STRINGS" "Z" ∈ Ts) (hdg : decode cc pc = .ok (.getstatic index, 3)) (k : ZW p l e R s m args below meth c D A nL cells slots Q ws lv (pc + 3) (.int 1 :: st)) : ZW p l e R s m args below meth c D A nL cells slots Q ws lv pc st := fun H locs ls hP hD hS hl => va_gets X.1 X.2.1 X.2.2.2.2.2.2.2.2.2.2.1 hS X.2.2.2.1 (X.2.2.2.2.1 _ hk) (fun _ h => h) hdg (k H locs ls hP hD hS hl)
theorem z_fm (X : ZC p s m args meth c cc nL own Ts D cA g A) {index : Nat} (hk : Cond.fieldLink own index "jdk/internal/util/Preconditions" "SIOOBE_FORMATTER" "Ljava/util/function/BiFunction;" ∈ Ts) (hdg : decode cc pc = .ok (.getstatic index, 3)) (k0 : ZW p l e R s m args below meth c D A nL cells slots Q ws lv (pc + 3) (.null :: st)) (k1 : ∀ t : Nat, ZW p l e R s m args below meth c D A nL cells slots Q ws lv (pc + 3) (.ref t :: st)) : ZW p l e R s m args below meth c D A nL cells slots Q ws lv pc st := fun H locs ls hP hD hS hl => by
  rcases X.2.2.2.2.2.2.2.2.2.2.2.1 with h | ⟨t, h⟩
  · exact va_gets X.1 X.2.1 h hS X.2.2.2.1 (X.2.2.2.2.1 _ hk) (fun _ h => h) hdg (k0 H locs ls hP hD hS hl)
  · exact va_gets X.1 X.2.1 h hS X.2.2.2.1 (X.2.2.2.2.1 _ hk) (fun _ h => h) hdg (k1 t H locs ls hP hD hS hl)
theorem z_i2c (X : ZC p s m args meth c cc nL own Ts D cA g A) {x : Int32} (hdg : decode cc pc = .ok (.i2c, 1)) (k : ZW p l e R s m args below meth c D A nL cells slots Q ws lv (pc + 1) (.int (x.toUInt32 % 65536).toInt32 :: st)) : ZW p l e R s m args below meth c D A nL cells slots Q ws lv pc (.int x :: st) := fun H locs ls hP hD hS hl => lv_i2c X.1 X.2.1 hdg rfl (k H locs ls hP hD hS hl)
theorem z_nret {w0 : va_W} {mc ms : Nat} {v rv : Int32} {ty : FieldType} (X : ZC p s m args meth c cc nL own Ts D cA g A) (hA : A = va_A w0 s.heap.size) (hQ : Q = MQ below (va_Qi (fun (r : Int32) (_ : Unit) => r = rv) (PostW D cA s.heap.size w0 ws) (va_A w0 s.heap.size)) args s mc ms (va_A w0 s.heap.size)) (hr : meth.sig.returnType = some ty) (hn : narrow ty (.int v) = .int v) (hv : v = rv) (hdg : decode cc pc = .ok (.ireturn, 1)) (hc : cells ≤ mc) (hs : slots ≤ ms) : ZW p l e R s m args below meth c D A nL cells slots Q ws lv pc [.int v] := by
  subst hA
  subst hQ
  exact fun H locs ls hP hD hS hl => W.widen hc hs (W.zret X.1 X.2.1 hr hn (fun t ht hW => ⟨⟨v, (), rfl, hv, by rw [ht]; exact hP, va_K.moved hW.alike X.2.2.2.2.2.1, hD⟩, hS.F ht⟩) hS.2.2 hdg (hlocks := X.2.2.2.2.2.2.2.1))
theorem z_VS {y : MethodName} {bytes : ByteArray} {maxL n index : Nat} {ret : Option FieldType} {wsy : List Cond} {rm : Room} {As rest st0 : List Value} {rv : Int32} (X : ZC p s m args meth c cc nL own Ts D cA g A) (i : Nat) (hi : i < 7) (cw : CallW R s args own "java/lang/String" index y bytes maxL ret wsy rm 0 0 n) (hM : ∀ sz, Met l y wsy rm (va_Pc (.ref (g (1 + i)) :: As) (PreW D cA g sz [])) (va_Qi (fun (r : Int32) (_ : Unit) => r = rv) (PostW D cA sz [] []) (va_A [] sz)) 0 0 (va_A [] sz)) (hn : As.length = n) (hst : st0 = As.reverse ++ .ref (g (1 + i)) :: rest) (hroom : (rest.map fun v => v.category).sum ≤ 8) (hdg : decode cc pc = .ok (.invokevirtual index, 3)) (hf : cells ≤ R.cells ∧ slots ≤ R.slots) (kk : ZW p l e R s m args below meth c D A nL cells slots Q ws lv (pc + 3) (.int rv :: rest)) : ZW p l e R s m args below meth c D A nL cells slots Q ws lv pc st0 := by
  intro H locs ls hP hD hS hl
  subst hst
  have hF : ∀ q, va_A [] H.size q → A q := fun q h => by
    rcases h with ⟨k, e, h⟩ | h
    · simp at h
    · exact X.2.2.2.2.2.2.1 q (Nat.le_trans hS.1 h)
  have hXc := (X.2.2.2.2.2.2.2.2.kept hS.2.1).narrow hF
  refine va_calli (va_runV (As := As) (rest := rest) ⟨X.1, X.2.1, X.2.2.1, X.2.2.2.1, X.2.2.2.2.1⟩ (hM H.size) cw ⟨pre_blind, vk_recv X.2.2.2.2.2.2.2.2.2.2.2.2.1 hi hS, fun U hU hW => ⟨rfl, by rw [hU], fun k q h => by simp at h, va_K.moved hW.alike X.2.2.2.2.2.1, ⟨fun i j x y h => by simp at h, fun k q h => by simp at h⟩, by rw [hU]; exact hXc.warm hW⟩⟩ rfl hn hl.1 rfl (lv_room hroom) hdg hf) hS (fun q _ h => hF q h) hF (fun r u t H1 locs1 ht hvm hw hB hz1 hk1 hS1 => ?_)
  subst hw
  refine kk H1 locs1 ls (hP.kept fun k q hk => ?_) hD hS1 hl
  have hlt := (hP k q hk).lt
  exact hk1 q.1 hlt (fun h => by
    rcases h with ⟨k, e, h⟩ | h
    · simp at h
    · omega)
end ZS
set_option maxRecDepth 20000 in
theorem ks_cod1 : Cond.fieldLink RJ0 38 "java/lang/String" "COMPACT_STRINGS" "Z" ∈ wsJ0_coder_7d493 := by decide +kernel
set_option maxRecDepth 20000 in
theorem ks_cod2 : Cond.fieldLink RJ0 15 "java/lang/String" "coder" "B" ∈ wsJ0_coder_7d493 := by decide +kernel
set_option maxHeartbeats 4000000 in
set_option maxRecDepth 100000 in
theorem c_s_coder (l : Launch) (D : va_G) (cA : Nat → ClassId) (g : Nat → Nat) (sz : Nat) (i : Nat) (hi : i < 7) : Met l yJ0_coder_7d493 wsJ0_coder_7d493 ({ frames := 0, cells := 0, slots := 0, locals := 0 }) (va_Pc [.ref (g (1 + i))] (PreW D cA g sz [])) (va_Qi (fun (r : Int32) (_ : Unit) => r = 0) (PostW D cA sz [] []) (va_A [] sz)) 0 0 (va_A [] sz) := by
  refine z_start (cc := cJ0_coder_7d493) (maxL := 1) (ret := (some .byte)) (lv0 := [(0, .ref (g (1 + i)))]) (Qc := fun sz => va_Qi (fun (r : Int32) (_ : Unit) => r = 0) (PostW D cA sz [] []) (va_A [] sz)) (free := fun sz => va_A [] sz) (by decide) rfl rfl (Nat.le_of_ble_eq_true rfl) ?_
  intro p e R s m args below meth c A Q hR hA hQ X hr hin
  refine z_cs X ks_cod1 dJ0_coder_7d493_0 ?_
  refine z_if_eq (tgt := 13) X dJ0_coder_7d493_3 (by decide) (fun h => absurd h (by decide)) (fun _ => ?_)
  refine z_aload_n X dJ0_coder_7d493_6 rfl 0 rfl ?_
  refine z_scod X i hi ks_cod2 dJ0_coder_7d493_7 ?_
  refine z_goto (tgt := 14) X dJ0_coder_7d493_10 (by decide) ?_
  exact z_nret X hA hQ hr rfl rfl dJ0_coder_7d493_14 (Nat.le_refl _) (Nat.le_refl _)
set_option maxRecDepth 20000 in
theorem ks_len1 : Cond.fieldLink RJ0 9 "java/lang/String" "value" "[B" ∈ wsJ0_length_8abf5 := by decide +kernel
set_option maxHeartbeats 4000000 in
set_option maxRecDepth 100000 in
theorem c_s_length (l : Launch) (D : va_G) (cA : Nat → ClassId) (g : Nat → Nat) (sz : Nat) (i : Nat) (hi : i < 7) : Met l yJ0_length_8abf5 wsJ0_length_8abf5 ({ frames := 1, cells := 0, slots := 0, locals := 20 }) (va_Pc [.ref (g (1 + i))] (PreW D cA g sz [])) (va_Qi (fun (r : Int32) (_ : Unit) => r = Int32.ofNat (sxL.getD i 0)) (PostW D cA sz [] []) (va_A [] sz)) 0 0 (va_A [] sz) := by
  refine z_start (cc := cJ0_length_8abf5) (maxL := 1) (ret := (some .int)) (lv0 := [(0, .ref (g (1 + i)))]) (Qc := fun sz => va_Qi (fun (r : Int32) (_ : Unit) => r = Int32.ofNat (sxL.getD i 0)) (PostW D cA sz [] []) (va_A [] sz)) (free := fun sz => va_A [] sz) (by decide) rfl rfl (Nat.le_of_ble_eq_true rfl) ?_
  intro p e R s m args below meth c A Q hR hA hQ X hr hin
  refine z_aload_n X dJ0_length_8abf5_0 rfl 0 rfl ?_
  refine z_sval X i hi ks_len1 dJ0_length_8abf5_1 ?_
  refine z_slen X i hi rfl dJ0_length_8abf5_4 ?_
  refine z_aload_n X dJ0_length_8abf5_5 rfl 0 rfl ?_
  refine z_VS (As := []) (rest := [.int (Int32.ofNat (sxL.getD i 0))]) (rv := 0) X i hi (cwV 0 X.2.2.2.2.1 gJ0_length_8abf5_J0_coder_7d493 rfl rfl rfl (by decide +kernel) (by rw [hR]; exact ⟨Nat.le_of_ble_eq_true rfl, Nat.le_of_ble_eq_true rfl⟩)) (fun sz => c_s_coder l D cA g sz i hi) rfl rfl (Nat.le_of_ble_eq_true rfl) dJ0_length_8abf5_6 ⟨Nat.zero_le _, Nat.zero_le _⟩ ?_
  refine z_ishr X dJ0_length_8abf5_9 ?_
  exact z_iret X hA hQ hr (by match i, hi with | 0, _ => rfl | 1, _ => rfl | 2, _ => rfl | 3, _ => rfl | 4, _ => rfl | 5, _ => rfl | 6, _ => rfl) dJ0_length_8abf5_10 (Nat.le_refl _) (Nat.le_refl _)
set_option maxRecDepth 20000 in
theorem ks_lat1 : Cond.fieldLink RJ0 38 "java/lang/String" "COMPACT_STRINGS" "Z" ∈ wsJ0_isLatin1_aae02 := by decide +kernel
set_option maxRecDepth 20000 in
theorem ks_lat2 : Cond.fieldLink RJ0 15 "java/lang/String" "coder" "B" ∈ wsJ0_isLatin1_aae02 := by decide +kernel
set_option maxHeartbeats 4000000 in
set_option maxRecDepth 100000 in
theorem c_s_latin (l : Launch) (D : va_G) (cA : Nat → ClassId) (g : Nat → Nat) (sz : Nat) (i : Nat) (hi : i < 7) : Met l yJ0_isLatin1_aae02 wsJ0_isLatin1_aae02 ({ frames := 0, cells := 0, slots := 0, locals := 0 }) (va_Pc [.ref (g (1 + i))] (PreW D cA g sz [])) (va_Qi (fun (r : Int32) (_ : Unit) => r = 1) (PostW D cA sz [] []) (va_A [] sz)) 0 0 (va_A [] sz) := by
  refine z_start (cc := cJ0_isLatin1_aae02) (maxL := 1) (ret := (some .boolean)) (lv0 := [(0, .ref (g (1 + i)))]) (Qc := fun sz => va_Qi (fun (r : Int32) (_ : Unit) => r = 1) (PostW D cA sz [] []) (va_A [] sz)) (free := fun sz => va_A [] sz) (by decide) rfl rfl (Nat.le_of_ble_eq_true rfl) ?_
  intro p e R s m args below meth c A Q hR hA hQ X hr hin
  refine z_cs X ks_lat1 dJ0_isLatin1_aae02_0 ?_
  refine z_if_eq (tgt := 17) X dJ0_isLatin1_aae02_3 (by decide) (fun h => absurd h (by decide)) (fun _ => ?_)
  refine z_aload_n X dJ0_isLatin1_aae02_6 rfl 0 rfl ?_
  refine z_scod X i hi ks_lat2 dJ0_isLatin1_aae02_7 ?_
  refine z_if_ne (tgt := 17) X dJ0_isLatin1_aae02_10 (by decide) (fun h => absurd rfl h) (fun _ => ?_)
  refine z_iconst (v := 1) X dJ0_isLatin1_aae02_13 (by decide) ?_
  refine z_goto (tgt := 18) X dJ0_isLatin1_aae02_14 (by decide) ?_
  exact z_zret X hA hQ hr (Or.inr rfl) rfl dJ0_isLatin1_aae02_18 (Nat.le_refl _) (Nat.le_refl _)
set_option maxHeartbeats 4000000 in
set_option maxRecDepth 100000 in
theorem c_s_cin (l : Launch) (D : va_G) (cA : Nat → ClassId) (g : Nat → Nat) (sz : Nat) (a b : Int32)  (h0 : ¬ a < 0) (h1 : a < b) : Met l yJ3_checkIndex_8e157 wsJ3_checkIndex_8e157 ({ frames := 0, cells := 0, slots := 0, locals := 0 }) (va_Pc [.int a, .int b, .null] (PreW D cA g sz [])) (va_Qi (fun (r : Int32) (_ : Unit) => r = a) (PostW D cA sz [] []) (va_A [] sz)) 0 0 (va_A [] sz) := by
  refine z_start (cc := cJ3_checkIndex_8e157) (maxL := 3) (ret := (some .int)) (lv0 := [(0, .int a), (1, .int b), (2, .null)]) (Qc := fun sz => va_Qi (fun (r : Int32) (_ : Unit) => r = a) (PostW D cA sz [] []) (va_A [] sz)) (free := fun sz => va_A [] sz) (by decide) rfl rfl (Nat.le_of_ble_eq_true rfl) ?_
  intro p e R s m args below meth c A Q hR hA hQ X hr hin
  refine z_iload_n X dJ3_checkIndex_8e157_0 rfl 0 rfl ?_
  refine z_if_lt (tgt := 9) X dJ3_checkIndex_8e157_1 (by decide) (fun h => absurd h h0) (fun _ => ?_)
  refine z_iload_n X dJ3_checkIndex_8e157_4 rfl 0 rfl ?_
  refine z_iload_n X dJ3_checkIndex_8e157_5 rfl 1 rfl ?_
  refine z_icmp_lt (tgt := 16) X dJ3_checkIndex_8e157_6 (by decide) (fun _ => ?_) (fun h => absurd h1 h)
  refine z_iload_n X dJ3_checkIndex_8e157_16 rfl 0 rfl ?_
  exact z_iret X hA hQ hr rfl dJ3_checkIndex_8e157_17 (Nat.le_refl _) (Nat.le_refl _)
set_option maxHeartbeats 4000000 in
set_option maxRecDepth 100000 in
theorem c_s_cir (l : Launch) (D : va_G) (cA : Nat → ClassId) (g : Nat → Nat) (sz : Nat) (a b : Int32) (t : Nat) (h0 : ¬ a < 0) (h1 : a < b) : Met l yJ3_checkIndex_8e157 wsJ3_checkIndex_8e157 ({ frames := 0, cells := 0, slots := 0, locals := 0 }) (va_Pc [.int a, .int b, .ref t] (PreW D cA g sz [])) (va_Qi (fun (r : Int32) (_ : Unit) => r = a) (PostW D cA sz [] []) (va_A [] sz)) 0 0 (va_A [] sz) := by
  refine z_start (cc := cJ3_checkIndex_8e157) (maxL := 3) (ret := (some .int)) (lv0 := [(0, .int a), (1, .int b), (2, .ref t)]) (Qc := fun sz => va_Qi (fun (r : Int32) (_ : Unit) => r = a) (PostW D cA sz [] []) (va_A [] sz)) (free := fun sz => va_A [] sz) (by decide) rfl rfl (Nat.le_of_ble_eq_true rfl) ?_
  intro p e R s m args below meth c A Q hR hA hQ X hr hin
  refine z_iload_n X dJ3_checkIndex_8e157_0 rfl 0 rfl ?_
  refine z_if_lt (tgt := 9) X dJ3_checkIndex_8e157_1 (by decide) (fun h => absurd h h0) (fun _ => ?_)
  refine z_iload_n X dJ3_checkIndex_8e157_4 rfl 0 rfl ?_
  refine z_iload_n X dJ3_checkIndex_8e157_5 rfl 1 rfl ?_
  refine z_icmp_lt (tgt := 16) X dJ3_checkIndex_8e157_6 (by decide) (fun _ => ?_) (fun h => absurd h1 h)
  refine z_iload_n X dJ3_checkIndex_8e157_16 rfl 0 rfl ?_
  exact z_iret X hA hQ hr rfl dJ3_checkIndex_8e157_17 (Nat.le_refl _) (Nat.le_refl _)
set_option maxRecDepth 20000 in
theorem ks_ck1 : Cond.fieldLink RJ0 1053 "jdk/internal/util/Preconditions" "SIOOBE_FORMATTER" "Ljava/util/function/BiFunction;" ∈ wsJ0_checkIndex_df160 := by decide +kernel
set_option maxHeartbeats 4000000 in
set_option maxRecDepth 100000 in
theorem c_s_ck (l : Launch) (D : va_G) (cA : Nat → ClassId) (g : Nat → Nat) (sz : Nat) (a b : Int32) (h0 : ¬ a < 0) (h1 : a < b) : Met l yJ0_checkIndex_df160 wsJ0_checkIndex_df160 ({ frames := 1, cells := 0, slots := 0, locals := 22 }) (va_Pc [.int a, .int b] (PreW D cA g sz [])) (va_Qv (fun (_ : Unit) => True) (PostW D cA sz [] []) (va_A [] sz)) 0 0 (va_A [] sz) := by
  refine z_start (cc := cJ0_checkIndex_df160) (maxL := 2) (ret := none) (lv0 := [(0, .int a), (1, .int b)]) (Qc := fun sz => va_Qv (fun (_ : Unit) => True) (PostW D cA sz [] []) (va_A [] sz)) (free := fun sz => va_A [] sz) (by decide) rfl rfl (Nat.le_of_ble_eq_true rfl) ?_
  intro p e R s m args below meth c A Q hR hA hQ X hr hin
  refine z_iload_n X dJ0_checkIndex_df160_0 rfl 0 rfl ?_
  refine z_iload_n X dJ0_checkIndex_df160_1 rfl 1 rfl ?_
  refine z_fm X ks_ck1 dJ0_checkIndex_df160_2 ?_ (fun t => ?_)
  · refine z_Si (As := [.int a, .int b, .null]) (rest := []) (wc := []) (wc' := []) (ws' := []) (rv := a) X (va_cwS 3 X.2.2.2.2.1 gJ0_checkIndex_df160_J3_checkIndex_8e157 rfl rfl rfl (by decide +kernel) (by rw [hR]; exact ⟨Nat.le_of_ble_eq_true rfl, Nat.le_of_ble_eq_true rfl⟩)) (fun sz => c_s_cin l D cA g sz a b h0 h1) [] [] rfl rfl rfl rfl rfl rfl rfl (Nat.le_of_ble_eq_true rfl) dJ0_checkIndex_df160_5 ⟨Nat.zero_le _, Nat.zero_le _⟩ ?_
    refine z_pop X dJ0_checkIndex_df160_8 rfl ?_
    exact z_vret X hA hQ hr dJ0_checkIndex_df160_9 (Nat.le_refl _) (Nat.le_refl _)
  · refine z_Si (As := [.int a, .int b, .ref t]) (rest := []) (wc := []) (wc' := []) (ws' := []) (rv := a) X (va_cwS 3 X.2.2.2.2.1 gJ0_checkIndex_df160_J3_checkIndex_8e157 rfl rfl rfl (by decide +kernel) (by rw [hR]; exact ⟨Nat.le_of_ble_eq_true rfl, Nat.le_of_ble_eq_true rfl⟩)) (fun sz => c_s_cir l D cA g sz a b t h0 h1) [] [] rfl rfl rfl rfl rfl rfl rfl (Nat.le_of_ble_eq_true rfl) dJ0_checkIndex_df160_5 ⟨Nat.zero_le _, Nat.zero_le _⟩ ?_
    refine z_pop X dJ0_checkIndex_df160_8 rfl ?_
    exact z_vret X hA hQ hr dJ0_checkIndex_df160_9 (Nat.le_refl _) (Nat.le_refl _)
theorem s_b255 (i : Nat) (hi : i < 7) (j : Nat) (hj : j < sxL.getD i 0) : (((sxB.getD i []).getD j 0 &&& 255).toUInt32 % 65536).toInt32 = (sxB.getD i []).getD j 0 := by
  revert j
  match i, hi with
  | 0, _ => decide
  | 1, _ => decide
  | 2, _ => decide
  | 3, _ => decide
  | 4, _ => decide
  | 5, _ => decide
  | 6, _ => decide
theorem s_in {i : Nat} (hi : i < 7) {j : Int32} (hj : vp_in j (sxL.getD i 0)) : ¬ j < 0 ∧ j < Int32.ofNat (sxL.getD i 0) ∧ j.toNatClampNeg < sxL.getD i 0 := by
  refine ⟨fun h => hj (Or.inl h), ?_, Nat.not_le.mp fun h => hj (Or.inr h)⟩
  have h := (vp_in_iff.mp hj).2
  rw [Int32.lt_iff_toInt_lt]
  have e : (Int32.ofNat (sxL.getD i 0)).toInt = ((sxL.getD i 0 : Nat) : Int) := by
    match i, hi with
    | 0, _ => rfl
    | 1, _ => rfl
    | 2, _ => rfl
    | 3, _ => rfl
    | 4, _ => rfl
    | 5, _ => rfl
    | 6, _ => rfl
  rw [e]
  exact h
set_option maxHeartbeats 4000000 in
set_option maxRecDepth 100000 in
theorem c_s_charAt1 (l : Launch) (D : va_G) (cA : Nat → ClassId) (g : Nat → Nat) (sz : Nat) (i : Nat) (hi : i < 7) (j : Int32) (hj : vp_in j (sxL.getD i 0)) : Met l yJ1_charAt_3b067 wsJ1_charAt_3b067 ({ frames := 2, cells := 0, slots := 0, locals := 43 }) (va_Pc [.ref (g (10 + i)), .int j] (PreW D cA g sz [])) (va_Qi (fun (r : Int32) (_ : Unit) => r = (sxB.getD i []).getD j.toNatClampNeg 0) (PostW D cA sz [] []) (va_A [] sz)) 0 0 (va_A [] sz) := by
  refine z_start (cc := cJ1_charAt_3b067) (maxL := 2) (ret := (some .char)) (lv0 := [(0, .ref (g (10 + i))), (1, .int j)]) (Qc := fun sz => va_Qi (fun (r : Int32) (_ : Unit) => r = (sxB.getD i []).getD j.toNatClampNeg 0) (PostW D cA sz [] []) (va_A [] sz)) (free := fun sz => va_A [] sz) (by decide) rfl rfl (Nat.le_of_ble_eq_true rfl) ?_
  intro p e R s m args below meth c A Q hR hA hQ X hr hin
  obtain ⟨h0, h1, h2⟩ := s_in hi hj
  refine z_iload_n X dJ1_charAt_3b067_0 rfl 1 rfl ?_
  refine z_aload_n X dJ1_charAt_3b067_1 rfl 0 rfl ?_
  refine z_slen X i hi rfl dJ1_charAt_3b067_2 ?_
  refine z_Sv (As := [.int j, .int (Int32.ofNat (sxL.getD i 0))]) (rest := []) (wc := []) (wc' := []) (ws' := []) X (va_cwS 2 X.2.2.2.2.1 gJ1_charAt_3b067_J0_checkIndex_df160 rfl rfl rfl (by decide +kernel) (by rw [hR]; exact ⟨Nat.le_of_ble_eq_true rfl, Nat.le_of_ble_eq_true rfl⟩)) (fun sz => c_s_ck l D cA g sz j (Int32.ofNat (sxL.getD i 0)) h0 h1) [] [] rfl rfl rfl rfl rfl rfl rfl (Nat.le_of_ble_eq_true rfl) dJ1_charAt_3b067_3 ⟨Nat.zero_le _, Nat.zero_le _⟩ ?_
  refine z_aload_n X dJ1_charAt_3b067_6 rfl 0 rfl ?_
  refine z_iload_n X dJ1_charAt_3b067_7 rfl 1 rfl ?_
  refine z_sbald X i hi hj dJ1_charAt_3b067_8 ?_
  refine z_sipush (v := 255) X dJ1_charAt_3b067_9 (by decide) ?_
  refine z_iand X dJ1_charAt_3b067_12 ?_
  refine z_i2c X dJ1_charAt_3b067_13 ?_
  exact z_nret X hA hQ hr (pk_nc _) (s_b255 i hi _ h2) dJ1_charAt_3b067_14 (Nat.le_refl _) (Nat.le_refl _)
set_option maxRecDepth 20000 in
theorem ks_ch1 : Cond.fieldLink RJ0 9 "java/lang/String" "value" "[B" ∈ wsJ0_charAt_5068e := by decide +kernel
set_option maxHeartbeats 4000000 in
set_option maxRecDepth 100000 in
theorem c_s_charAt (l : Launch) (D : va_G) (cA : Nat → ClassId) (g : Nat → Nat) (sz : Nat) (i : Nat) (hi : i < 7) (j : Int32) (hj : vp_in j (sxL.getD i 0)) : Met l yJ0_charAt_5068e wsJ0_charAt_5068e ({ frames := 3, cells := 0, slots := 0, locals := 64 }) (va_Pc [.ref (g (1 + i)), .int j] (PreW D cA g sz [])) (va_Qi (fun (r : Int32) (_ : Unit) => r = (sxB.getD i []).getD j.toNatClampNeg 0) (PostW D cA sz [] []) (va_A [] sz)) 0 0 (va_A [] sz) := by
  refine z_start (cc := cJ0_charAt_5068e) (maxL := 2) (ret := (some .char)) (lv0 := [(0, .ref (g (1 + i))), (1, .int j)]) (Qc := fun sz => va_Qi (fun (r : Int32) (_ : Unit) => r = (sxB.getD i []).getD j.toNatClampNeg 0) (PostW D cA sz [] []) (va_A [] sz)) (free := fun sz => va_A [] sz) (by decide) rfl rfl (Nat.le_of_ble_eq_true rfl) ?_
  intro p e R s m args below meth c A Q hR hA hQ X hr hin
  obtain ⟨h0, h1, h2⟩ := s_in hi hj
  refine z_aload_n X dJ0_charAt_5068e_0 rfl 0 rfl ?_
  refine z_VS (As := []) (rest := []) (rv := 1) X i hi (cwV 0 X.2.2.2.2.1 gJ0_charAt_5068e_J0_isLatin1_aae02 rfl rfl rfl (by decide +kernel) (by rw [hR]; exact ⟨Nat.le_of_ble_eq_true rfl, Nat.le_of_ble_eq_true rfl⟩)) (fun sz => c_s_latin l D cA g sz i hi) rfl rfl (Nat.le_of_ble_eq_true rfl) dJ0_charAt_5068e_1 ⟨Nat.zero_le _, Nat.zero_le _⟩ ?_
  refine z_if_eq (tgt := 16) X dJ0_charAt_5068e_4 (by decide) (fun h => absurd h (by decide)) (fun _ => ?_)
  refine z_aload_n X dJ0_charAt_5068e_7 rfl 0 rfl ?_
  refine z_sval X i hi ks_ch1 dJ0_charAt_5068e_8 ?_
  refine z_iload_n X dJ0_charAt_5068e_11 rfl 1 rfl ?_
  refine z_Si (As := [.ref (g (10 + i)), .int j]) (rest := []) (wc := []) (wc' := []) (ws' := []) (rv := (sxB.getD i []).getD j.toNatClampNeg 0) X (va_cwS 2 X.2.2.2.2.1 gJ0_charAt_5068e_J1_charAt_3b067 rfl rfl rfl (by decide +kernel) (by rw [hR]; exact ⟨Nat.le_of_ble_eq_true rfl, Nat.le_of_ble_eq_true rfl⟩)) (fun sz => c_s_charAt1 l D cA g sz i hi j hj) [] [] rfl rfl rfl rfl rfl rfl rfl (Nat.le_of_ble_eq_true rfl) dJ0_charAt_5068e_12 ⟨Nat.zero_le _, Nat.zero_le _⟩ ?_
  exact z_nret X hA hQ hr (by rw [← s_b255 i hi _ h2]; exact pk_nc _) rfl dJ0_charAt_5068e_15 (Nat.le_refl _) (Nat.le_refl _)
