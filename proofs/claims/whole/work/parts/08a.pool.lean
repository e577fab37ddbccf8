abbrev wSt (cA : Nat → ClassId) (h : Nat) (A : Nat → Nat → Nat) (V : Nat → Ob) : va_W := [(h, .inr (9, [.ref ((A 0) 0), .ref ((A 0) 1), .ref ((A 0) 2), .ref ((A 0) 3), .int ((V 0) 4 0), .int ((V 0) 5 0), .int ((V 0) 6 0)])), ((A 0) 3, .inl (cA 4, 3, .inr (.inr (.inr (.inr (bk ((A 0) 20) ((A 0) 21) ((A 0) 22))))))), ((A 0 0), .inr (10, [.int ((V 1) 0 0), .ref ((A 1) 1), .ref ((A 1) 2), .ref ((A 1) 3), .ref ((A 1) 4)])), ((A 1) 1, .inl (cA 0, 8, .inl ((V 1) 1))), ((A 1) 2, .inl (cA 0, 8, .inl ((V 1) 2))), ((A 1) 3, .inl (cA 0, 8, .inl ((V 1) 3))), ((A 1) 4, .inl (cA 0, 8, .inl ((V 1) 4))), ((A 0 1), .inr (8, [.int ((V 2) 0 0), .int ((V 2) 1 0), .int ((V 2) 2 0), .int ((V 2) 3 0), .ref ((A 2) 4), .ref ((A 2) 5), .ref ((A 2) 6)])), ((A 2) 4, .inl (cA 0, 8, .inl ((V 2) 4))), ((A 2) 5, .inl (cA 0, 8, .inl ((V 2) 5))), ((A 2) 6, .inl (cA 1, 8, .inr (.inr (.inl (fun j => ((V 2) 6 j).toUInt32))))), ((A 0 2), .inr (4, [.int ((V 3) 0 0), .ref ((A 3) 1), .ref ((A 3) 2), .ref ((A 3) 3), .ref ((A 3) 4)])), ((A 3) 1, .inl (cA 0, 40, .inl ((V 3) 1))), ((A 3) 2, .inl (cA 0, 40, .inl ((V 3) 2))), ((A 3) 3, .inl (cA 0, 40, .inl ((V 3) 3))), ((A 3) 4, .inl (cA 0, 320, .inl ((V 3) 4))), ((A 0 20), .inr (0, [.int ((V 4) 0 0), .int ((V 4) 1 0), .int ((V 4) 2 0), .int ((V 4) 3 0), .int ((V 4) 4 0), .int ((V 4) 5 0), .int ((V 4) 6 0), .ref ((A 4) 7), .ref ((A 4) 8), .ref ((A 4) 9)])), ((A 4) 7, .inl (cA 0, 30, .inl ((V 4) 7))), ((A 4) 8, .inl (cA 0, 30, .inl ((V 4) 8))), ((A 4) 9, .inl (cA 0, 30, .inl ((V 4) 9))), ((A 0 21), .inr (0, [.int ((V 5) 0 0), .int ((V 5) 1 0), .int ((V 5) 2 0), .int ((V 5) 3 0), .int ((V 5) 4 0), .int ((V 5) 5 0), .int ((V 5) 6 0), .ref ((A 5) 7), .ref ((A 5) 8), .ref ((A 5) 9)])), ((A 5) 7, .inl (cA 0, 30, .inl ((V 5) 7))), ((A 5) 8, .inl (cA 0, 30, .inl ((V 5) 8))), ((A 5) 9, .inl (cA 0, 30, .inl ((V 5) 9))), ((A 0 22), .inr (0, [.int ((V 6) 0 0), .int ((V 6) 1 0), .int ((V 6) 2 0), .int ((V 6) 3 0), .int ((V 6) 4 0), .int ((V 6) 5 0), .int ((V 6) 6 0), .ref ((A 6) 7), .ref ((A 6) 8), .ref ((A 6) 9)])), ((A 6) 7, .inl (cA 0, 30, .inl ((V 6) 7))), ((A 6) 8, .inl (cA 0, 30, .inl ((V 6) 8))), ((A 6) 9, .inl (cA 0, 30, .inl ((V 6) 9)))]
abbrev kc (cA : Nat → ClassId) (ak N : Nat) (hs : Nat → Option Nat) : Nat × va_E := (ak, .inl (cA 5, N, .inr (.inr (.inr (.inr hs)))))
def slW (cA : Nat → ClassId) (hs : Nat → Option Nat) (AA : Nat → Nat → Nat → Nat) (P : PV) (i : Nat) : va_W := match hs i, P i with
  | some h, some V => wSt cA h (AA i) V
  | _, _ => []
def sls (cA : Nat → ClassId) (hs : Nat → Option Nat) (AA : Nat → Nat → Nat → Nat) (P : PV) : Nat → va_W
  | 0 => []
  | n + 1 => slW cA hs AA P n ++ sls cA hs AA P n
def Pool (cA : Nat → ClassId) (ak N : Nat) (P : PV) (pl : va_W) : Prop := ∃ (hs : Nat → Option Nat) (AA : Nat → Nat → Nat → Nat), pl.Perm (kc cA ak N hs :: sls cA hs AA P N) ∧ ∀ i, i < N → (hs i).isSome = (P i).isSome
theorem sls_cong {cA : Nat → ClassId} {hs hs' : Nat → Option Nat} {AA AA' : Nat → Nat → Nat → Nat} {P P' : PV} : ∀ n : Nat, (∀ i, i < n → hs i = hs' i ∧ AA i = AA' i ∧ P i = P' i) → sls cA hs AA P n = sls cA hs' AA' P' n
  | 0, _ => rfl
  | n + 1, h => by
    obtain ⟨h1, h2, h3⟩ := h n (Nat.lt_succ_self n)
    unfold sls
    rw [sls_cong n (fun i hi => h i (by omega))]
    unfold slW
    rw [h1, h2, h3]
/-- a slot is taken out: what is left does not know of it -/
theorem sls_take {cA : Nat → ClassId} {hs : Nat → Option Nat} {AA : Nat → Nat → Nat → Nat} {P : PV} {i : Nat} : ∀ n : Nat, i < n → ∃ pl0 : va_W, ∀ (hs' : Nat → Option Nat) (AA' : Nat → Nat → Nat → Nat) (P' : PV), (∀ j, j < n → j ≠ i → hs j = hs' j ∧ AA j = AA' j ∧ P j = P' j) → (sls cA hs' AA' P' n).Perm (slW cA hs' AA' P' i ++ pl0)
  | 0, h => absurd h (Nat.not_lt_zero i)
  | n + 1, h => by
    by_cases hi : i = n
    · subst hi
      refine ⟨sls cA hs AA P i, fun hs' AA' P' hq => ?_⟩
      show (slW cA hs' AA' P' i ++ sls cA hs' AA' P' i).Perm (slW cA hs' AA' P' i ++ sls cA hs AA P i)
      rw [sls_cong (cA := cA) (hs := hs) (AA := AA) (P := P) i (fun j hj => hq j (by omega) (by omega))]
    · obtain ⟨pl0, hp⟩ := sls_take (cA := cA) (hs := hs) (AA := AA) (P := P) (i := i) n (by omega)
      refine ⟨slW cA hs AA P n ++ pl0, fun hs' AA' P' hq => ?_⟩
      obtain ⟨h1, h2, h3⟩ := hq n (by omega) (fun e => hi e.symm)
      have e : slW cA hs AA P n = slW cA hs' AA' P' n := by unfold slW; rw [h1, h2, h3]
      rw [e]
      unfold sls
      refine ((hp hs' AA' P' (fun j hj hji => hq j (by omega) hji)).append_left _).trans ?_
      rw [← List.append_assoc, ← List.append_assoc]
      exact List.perm_append_comm.append_right _
theorem Pool.some {cA : Nat → ClassId} {ak N i : Nat} {P : PV} {pl : va_W} {V : Nat → Ob} (h : Pool cA ak N P pl) (hi : i < N) (hV : P i = some V) : ∃ (hs : Nat → Option Nat) (q : Nat) (A : Nat → Nat → Nat) (pl0 : va_W), hs i = some q ∧ pl.Perm (kc cA ak N hs :: (wSt cA q A V ++ pl0)) ∧ (∀ V', Pool cA ak N (upP P i V') (kc cA ak N hs :: (wSt cA q A V' ++ pl0))) ∧ Pool cA ak N P (kc cA ak N hs :: (wSt cA q A V ++ pl0)) := by
  obtain ⟨hs, AA, hp, hq⟩ := h
  have h1 := hq i hi
  rw [hV] at h1
  obtain ⟨q, hq2⟩ := Option.isSome_iff_exists.mp h1
  obtain ⟨pl0, hp0⟩ := sls_take (cA := cA) (hs := hs) (AA := AA) (P := P) N hi
  have e0 := hp0 hs AA P (fun j _ _ => ⟨rfl, rfl, rfl⟩)
  have e1 : slW cA hs AA P i = wSt cA q (AA i) V := by unfold slW; rw [hq2, hV]
  rw [e1] at e0
  refine ⟨hs, q, AA i, pl0, hq2, hp.trans (e0.cons _), fun V' => ⟨hs, AA, ?_, fun j hj => ?_⟩, ⟨hs, AA, (e0.cons _).symm, hq⟩⟩
  · have e2 := hp0 hs AA (upP P i V') (fun j _ hji => ⟨rfl, rfl, by unfold upP; rw [if_neg hji]⟩)
    have e3 : slW cA hs AA (upP P i V') i = wSt cA q (AA i) V' := by unfold slW upP; rw [hq2, if_pos rfl]
    rw [e3] at e2
    exact (e2.cons _).symm
  · unfold upP
    by_cases hji : j = i
    · subst hji; rw [if_pos rfl, hq2]; rfl
    · rw [if_neg hji]; exact hq j hj
theorem Pool.none {cA : Nat → ClassId} {ak N i : Nat} {P : PV} {pl : va_W} (h : Pool cA ak N P pl) (hi : i < N) (hV : P i = none) : ∃ (hs : Nat → Option Nat) (pl0 : va_W), hs i = Option.none ∧ pl.Perm (kc cA ak N hs :: pl0) ∧ (∀ q A V', Pool cA ak N (upP P i V') (kc cA ak N (va_up hs i (Option.some q)) :: (wSt cA q A V' ++ pl0))) ∧ Pool cA ak N P (kc cA ak N hs :: pl0) := by
  obtain ⟨hs, AA, hp, hq⟩ := h
  have h1 := hq i hi
  rw [hV] at h1
  have hq2 : hs i = Option.none := by simpa using h1
  obtain ⟨pl0, hp0⟩ := sls_take (cA := cA) (hs := hs) (AA := AA) (P := P) N hi
  have e0 := hp0 hs AA P (fun j _ _ => ⟨rfl, rfl, rfl⟩)
  have e1 : slW cA hs AA P i = [] := by unfold slW; rw [hq2]
  rw [e1, List.nil_append] at e0
  refine ⟨hs, pl0, hq2, hp.trans (e0.cons _), fun q A V' => ⟨va_up hs i (Option.some q), fun j => if j = i then A else AA j, ?_, fun j hj => ?_⟩, ⟨hs, AA, (e0.cons _).symm, hq⟩⟩
  · have e2 := hp0 (va_up hs i (Option.some q)) (fun j => if j = i then A else AA j) (upP P i V') (fun j _ hji => ⟨by unfold va_up; rw [if_neg hji], by rw [if_neg hji], by unfold upP; rw [if_neg hji]⟩)
    have e3 : slW cA (va_up hs i (Option.some q)) (fun j => if j = i then A else AA j) (upP P i V') i = wSt cA q A V' := by unfold slW upP va_up; simp only [if_pos rfl]; rfl
    rw [e3] at e2
    exact (e2.cons _).symm
  · unfold upP va_up
    by_cases hji : j = i
    · subst hji; rw [if_pos rfl, if_pos rfl]; rfl
    · rw [if_neg hji, if_neg hji]; exact hq j hj
def PostT (D : va_G) (cA : Nat → ClassId) (sz : Nat) (w0 w' : va_W) (Pl : va_W → Prop) (pl' : va_W) (t : State) : Prop := Pl pl' ∧ va_P D vwCl (w' ++ pl') t.heap ∧ va_K D vwCl (tyL cA) t ∧ va_D (va_A w0 sz) (w' ++ pl')
section ZP
variable {p : Program} {l : Launch} {e : Env} {R : Room} {s : State} {m : MethodId} {args : Array Value} {below : List Frame} {meth : Method} {c : Code} {cc : ByteArray} {nL cells slots : Nat} {own : String} {Ts : List Cond} {D : va_G} {cA : Nat → ClassId} {g : Nat → Nat} {A : Nat → Prop} {Q : State → Prop} {ws : va_W} {lv : List (Nat × Value)} {pc : Nat} {st : List Value}
theorem z_aldS {a N : Nat} {i : Int32} {hs : Nat → Option Nat} (X : ZC p s m args meth c cc nL own Ts D cA g A) (q0 : Nat) (ha : ws[q0]? = some (kc cA a N hs)) (hin : vp_in i N) {r : Option Nat} (hr : hs i.toNatClampNeg = r) (hdg : decode cc pc = .ok (.aaload, 1)) (k : ZW p l e R s m args below meth c D A nL cells slots Q ws lv (pc + 1) (va_rf r :: st)) : ZW p l e R s m args below meth c D A nL cells slots Q ws lv pc (.int i :: .ref a :: st) := by
  subst hr
  exact fun H locs ls hP hD hS hl => va_aldq X.1 X.2.1 X.2.2.2.2.2.1 hP q0 5 ha rfl hin hdg (k H locs ls hP hD hS hl)
theorem z_ifnn0 (X : ZC p s m args meth c cc nL own Ts D cA g A) {off : Int} (hdg : decode cc pc = .ok (.ifnonnull off, 3)) (k : ZW p l e R s m args below meth c D A nL cells slots Q ws lv (pc + 3) st) : ZW p l e R s m args below meth c D A nL cells slots Q ws lv pc (.null :: st) := fun H locs ls hP hD hS hl => lv_ifnonnullN X.1 X.2.1 hdg (k H locs ls hP hD hS hl)
theorem z_ifnn1 (X : ZC p s m args meth c cc nL own Ts D cA g A) {off : Int} {tgt x : Nat} (hdg : decode cc pc = .ok (.ifnonnull off, 3)) (ht : (pc : Int) + off = (tgt : Int)) (k : ZW p l e R s m args below meth c D A nL cells slots Q ws lv tgt st) : ZW p l e R s m args below meth c D A nL cells slots Q ws lv pc (.ref x :: st) := fun H locs ls hP hD hS hl => lv_ifnonnull X.1 X.2.1 hdg ht (k H locs ls hP hD hS hl)
theorem z_null (X : ZC p s m args meth c cc nL own Ts D cA g A) (hdg : decode cc pc = .ok (.aconst_null, 1)) (k : ZW p l e R s m args below meth c D A nL cells slots Q ws lv (pc + 1) (.null :: st)) : ZW p l e R s m args below meth c D A nL cells slots Q ws lv pc st := fun H locs ls hP hD hS hl => lv_null X.1 X.2.1 hdg (k H locs ls hP hD hS hl)
theorem z_aloadN {q : Fin 4} {i : Nat} (X : ZC p s m args meth c cc nL own Ts D cA g A) (hdg : decode cc pc = .ok (.aload_n q, 1)) (hi : (q : Nat) = i) (j : Nat) (hj : lv[j]? = some (i, .null)) (k : ZW p l e R s m args below meth c D A nL cells slots Q ws lv (pc + 1) (.null :: st)) : ZW p l e R s m args below meth c D A nL cells slots Q ws lv pc st := fun H locs ls hP hD hS hl => lv_aload_nN X.1 X.2.1 hdg hi (lv_at hl j hj) (k H locs ls hP hD hS hl)
theorem z_astoreN {q : Fin 4} {i : Nat} {lv' : List (Nat × Value)} (X : ZC p s m args meth c cc nL own Ts D cA g A) (hdg : decode cc pc = .ok (.astore_n q, 1)) (hi : (q : Nat) = i) (hn : i < nL) (hl2 : (i, Value.null) :: lv.filter (fun q => !(q.1 == i) && !(q.1 + 1 == i && q.2.category == 2)) = lv') (k : ZW p l e R s m args below meth c D A nL cells slots Q ws lv' (pc + 1) st) : ZW p l e R s m args below meth c D A nL cells slots Q ws lv pc (.null :: st) := fun H locs ls hP hD hS hl => lv_astore_nN X.1 X.2.1 hdg hi hl hn hl2 (fun ls' hl' => k H locs ls' hP hD hS hl')
theorem z_frameT {X0 wc wc' X1 pl : va_W} {H H1 : Heap} (hP : va_P D vwCl (X0 ++ pl) H) (hD : va_D A (X0 ++ pl)) (isC src : List Nat) (hC : isC.map (fun i => X0[i]?) = wc.map some) (hs : src.map (zs X0 wc') = X1.map some) (hdj : (src.all fun i => Nat.ble 1000 i || !isC.contains i) = true) (had : X1.map (fun q => q.1) = X0.map (fun q => q.1))
    (hk : ∀ q : Nat, q < H.size → ¬ va_A wc H.size q → H1[q]? = H[q]?) (hP1 : va_P D vwCl wc' H1) : va_P D vwCl (X1 ++ pl) H1 ∧ va_D A (X1 ++ pl) := by
  have hPX : va_P D vwCl X0 H := fun k q h => hP k q (by rw [List.getElem?_append_left (List.getElem?_eq_some_iff.mp h).1]; exact h)
  have hDX : va_D A X0 := ⟨fun i j x y hx hy => hD.1 i j x y (by rw [List.getElem?_append_left (List.getElem?_eq_some_iff.mp hx).1]; exact hx) (by rw [List.getElem?_append_left (List.getElem?_eq_some_iff.mp hy).1]; exact hy), fun k q h => hD.2 k q (by rw [List.getElem?_append_left (List.getElem?_eq_some_iff.mp h).1]; exact h)⟩
  obtain ⟨hP2, hD2⟩ := z_frame hPX hDX isC src hC hs hdj had hk hP1
  have right : ∀ (k : Nat) (q : Nat × va_E), pl[k]? = some q → (X0 ++ pl)[X0.length + k]? = some q := fun k q h => by
    rw [List.getElem?_append_right (by omega), Nat.add_sub_cancel_left]; exact h
  refine ⟨hP2.app (fun k q h => ?_), vD_of_nodup ?_ (fun q hq => ?_)⟩
  · have hat := hP _ q (right k q h)
    refine hat.kept (hk q.1 hat.lt (fun ha => ?_))
    rcases ha with ⟨k2, e2, h5⟩ | h5
    · obtain ⟨j, h6, h7⟩ := va_in_of isC hC h5
      have hj := (List.getElem?_eq_some_iff.mp h7).1
      have := hD.1 (X0.length + k) j q (q.1, e2) (right k q h) (by rw [List.getElem?_append_left hj]; exact h7) rfl
      omega
    · exact absurd hat.lt (Nat.not_lt.mpr h5)
  · have h0 := vD_nodup hD
    rw [List.map_append] at h0 ⊢
    rw [had]
    exact h0
  · rcases List.mem_append.mp hq with h | h
    · obtain ⟨i, hi⟩ := List.getElem?_of_mem h
      exact hD2.2 i q hi
    · obtain ⟨i, hi⟩ := List.getElem?_of_mem h
      exact hD.2 _ q (right i q hi)
theorem z_subT {X0 wc pl : va_W} {isC : List Nat} (hC : isC.map (fun i => X0[i]?) = wc.map some) : isC.map (fun i => (X0 ++ pl)[i]?) = wc.map some := by
  rw [← hC]
  refine List.map_congr_left (fun i hi => ?_)
  have : (some (X0[i]?) : Option (Option (Nat × va_E))) = some (X0[i]?) := rfl
  obtain ⟨k, hk⟩ := List.getElem?_of_mem hi
  have h1 : (isC.map (fun i => X0[i]?))[k]? = some (X0[i]?) := by rw [List.getElem?_map, hk]; rfl
  rw [hC, List.getElem?_map] at h1
  cases hw : wc[k]? with
  | none => rw [hw] at h1; cases h1
  | some z =>
    rw [hw] at h1
    have h2 : X0[i]? = some z := (Option.some.inj h1).symm
    rw [List.getElem?_append_left (List.getElem?_eq_some_iff.mp h2).1]

theorem z_ViT {y : MethodName} {bytes : ByteArray} {maxL n index mc ms : Nat} {ret : Option FieldType} {wsy : List Cond} {rm : Room} {As rest st0 : List Value} {wc wc' X0 X1 pl : va_W} {rv : Int32} {C : String} {b : Nat} {ci : Nat} {q : vw_C} {fs : List Value} (X : ZC p s m args meth c cc nL own Ts D cA g A) (cw : CallW R s args own C index y bytes maxL ret wsy rm mc ms n) (hM : ∀ sz, Met l y wsy rm (va_Pc (.ref b :: As) (PreW D cA g sz wc)) (va_Qi (fun (r : Int32) (_ : Unit) => r = rv) (PostW D cA sz wc wc') (va_A wc sz)) mc ms (va_A wc sz)) (isC src : List Nat) (hC : isC.map (fun i => X0[i]?) = wc.map some) (hnd : va_nd isC = true) (hs : src.map (zs X0 wc') = X1.map some) (hdj : (src.all fun i => Nat.ble 1000 i || !isC.contains i) = true) (had : X1.map (fun q => q.1) = X0.map (fun q => q.1)) (hcl : vwCl[ci]? = some q) (hq : q.1 = C) (hb0 : wc[0]? = some (b, .inr (ci, fs))) (hn : As.length = n) (hst : st0 = As.reverse ++ .ref b :: rest) (hroom : (rest.map fun v => v.category).sum ≤ 8) (hdg : decode cc pc = .ok (.invokevirtual index, 3)) (hf : cells + mc ≤ R.cells ∧ slots + ms ≤ R.slots) (kk : ZW p l e R s m args below meth c D A nL (cells + mc) (slots + ms) Q (X1 ++ pl) lv (pc + 3) (.int rv :: rest)) : ZW p l e R s m args below meth c D A nL cells slots Q (X0 ++ pl) lv pc st0 := by
  intro H locs ls hP hD hS hl
  subst hst
  have hC2 := z_subT (pl := pl) hC
  have hPc := z_P hP isC hC2
  have hDc := hD.sub isC hnd hC2
  have hFc := va_free hD hS X.2.2.2.2.2.2.1 isC hC2
  have hXc := (X.2.2.2.2.2.2.2.2.kept hS.2.1).narrow hFc
  refine va_calli (va_runV (As := As) (rest := rest) ⟨X.1, X.2.1, X.2.2.1, X.2.2.2.1, X.2.2.2.2.1⟩ (hM H.size) cw ⟨pre_blind, by rw [← hq]; exact va_recv X.2.2.2.2.2.1 hPc hcl hb0, fun U hU hW => ⟨rfl, by rw [hU], by rw [hU]; exact hPc, va_K.moved hW.alike X.2.2.2.2.2.1, hDc.weaken (fun _ _ _ _ => trivial), by rw [hU]; exact hXc.warm hW⟩⟩ rfl hn hl.1 rfl (lv_room hroom) hdg hf) hS (fun q _ h => hFc q h) hFc (fun r u t H1 locs1 ht hvm hw hB hz1 hk1 hS1 => ?_)
  obtain ⟨hP1, -, -⟩ := hB
  rw [ht] at hP1
  obtain ⟨hP2, hD2⟩ := z_frameT hP hD isC src hC hs hdj had hk1 hP1
  subst hw
  exact kk H1 locs1 ls hP2 hD2 hS1 hl
theorem z_VvT {y : MethodName} {bytes : ByteArray} {maxL n index mc ms : Nat} {ret : Option FieldType} {wsy : List Cond} {rm : Room} {As rest st0 : List Value} {wc wc' X0 X1 pl : va_W}  {C : String} {b : Nat} {ci : Nat} {q : vw_C} {fs : List Value} (X : ZC p s m args meth c cc nL own Ts D cA g A) (cw : CallW R s args own C index y bytes maxL ret wsy rm mc ms n) (hM : ∀ sz, Met l y wsy rm (va_Pc (.ref b :: As) (PreW D cA g sz wc)) (va_Qv (fun (_ : Unit) => True) (PostW D cA sz wc wc') (va_A wc sz)) mc ms (va_A wc sz)) (isC src : List Nat) (hC : isC.map (fun i => X0[i]?) = wc.map some) (hnd : va_nd isC = true) (hs : src.map (zs X0 wc') = X1.map some) (hdj : (src.all fun i => Nat.ble 1000 i || !isC.contains i) = true) (had : X1.map (fun q => q.1) = X0.map (fun q => q.1)) (hcl : vwCl[ci]? = some q) (hq : q.1 = C) (hb0 : wc[0]? = some (b, .inr (ci, fs))) (hn : As.length = n) (hst : st0 = As.reverse ++ .ref b :: rest) (hroom : (rest.map fun v => v.category).sum ≤ 8) (hdg : decode cc pc = .ok (.invokevirtual index, 3)) (hf : cells + mc ≤ R.cells ∧ slots + ms ≤ R.slots) (kk : ZW p l e R s m args below meth c D A nL (cells + mc) (slots + ms) Q (X1 ++ pl) lv (pc + 3) rest) : ZW p l e R s m args below meth c D A nL cells slots Q (X0 ++ pl) lv pc st0 := by
  intro H locs ls hP hD hS hl
  subst hst
  have hC2 := z_subT (pl := pl) hC
  have hPc := z_P hP isC hC2
  have hDc := hD.sub isC hnd hC2
  have hFc := va_free hD hS X.2.2.2.2.2.2.1 isC hC2
  have hXc := (X.2.2.2.2.2.2.2.2.kept hS.2.1).narrow hFc
  refine va_callv (va_runV (As := As) (rest := rest) ⟨X.1, X.2.1, X.2.2.1, X.2.2.2.1, X.2.2.2.2.1⟩ (hM H.size) cw ⟨pre_blind, by rw [← hq]; exact va_recv X.2.2.2.2.2.1 hPc hcl hb0, fun U hU hW => ⟨rfl, by rw [hU], by rw [hU]; exact hPc, va_K.moved hW.alike X.2.2.2.2.2.1, hDc.weaken (fun _ _ _ _ => trivial), by rw [hU]; exact hXc.warm hW⟩⟩ rfl hn hl.1 rfl (lv_room hroom) hdg hf) hS (fun q _ h => hFc q h) hFc (fun u t H1 locs1 ht hvm hw hB hz1 hk1 hS1 => ?_)
  obtain ⟨hP1, -, -⟩ := hB
  rw [ht] at hP1
  obtain ⟨hP2, hD2⟩ := z_frameT hP hD isC src hC hs hdj had hk1 hP1
  exact kk H1 locs1 ls hP2 hD2 hS1 hl
theorem z_SiT {y : MethodName} {bytes : ByteArray} {maxL n index mc ms : Nat} {ret : Option FieldType} {wsy : List Cond} {rm : Room} {As rest st0 : List Value} {wc wc' X0 X1 pl : va_W} {rv : Int32}  (X : ZC p s m args meth c cc nL own Ts D cA g A) (cw : CallB R s args own index y bytes maxL ret wsy rm mc ms n ∧ (Cond.static y).before args s = true) (hM : ∀ sz, Met l y wsy rm (va_Pc As (PreW D cA g sz wc)) (va_Qi (fun (r : Int32) (_ : Unit) => r = rv) (PostW D cA sz wc wc') (va_A wc sz)) mc ms (va_A wc sz)) (isC src : List Nat) (hC : isC.map (fun i => X0[i]?) = wc.map some) (hnd : va_nd isC = true) (hs : src.map (zs X0 wc') = X1.map some) (hdj : (src.all fun i => Nat.ble 1000 i || !isC.contains i) = true) (had : X1.map (fun q => q.1) = X0.map (fun q => q.1))  (hn : As.length = n) (hst : st0 = As.reverse ++ rest) (hroom : (rest.map fun v => v.category).sum ≤ 8) (hdg : decode cc pc = .ok (.invokestatic index, 3)) (hf : cells + mc ≤ R.cells ∧ slots + ms ≤ R.slots) (kk : ZW p l e R s m args below meth c D A nL (cells + mc) (slots + ms) Q (X1 ++ pl) lv (pc + 3) (.int rv :: rest)) : ZW p l e R s m args below meth c D A nL cells slots Q (X0 ++ pl) lv pc st0 := by
  intro H locs ls hP hD hS hl
  subst hst
  have hC2 := z_subT (pl := pl) hC
  have hPc := z_P hP isC hC2
  have hDc := hD.sub isC hnd hC2
  have hFc := va_free hD hS X.2.2.2.2.2.2.1 isC hC2
  have hXc := (X.2.2.2.2.2.2.2.2.kept hS.2.1).narrow hFc
  refine va_calli (va_runS (As := As) (rest := rest) ⟨X.1, X.2.1, X.2.2.1, X.2.2.2.1, X.2.2.2.2.1⟩ (hM H.size) cw ⟨pre_blind, fun U hU hW => ⟨rfl, by rw [hU], by rw [hU]; exact hPc, va_K.moved hW.alike X.2.2.2.2.2.1, hDc.weaken (fun _ _ _ _ => trivial), by rw [hU]; exact hXc.warm hW⟩⟩ rfl hn hl.1 rfl (lv_room hroom) hdg hf) hS (fun q _ h => hFc q h) hFc (fun r u t H1 locs1 ht hvm hw hB hz1 hk1 hS1 => ?_)
  obtain ⟨hP1, -, -⟩ := hB
  rw [ht] at hP1
  obtain ⟨hP2, hD2⟩ := z_frameT hP hD isC src hC hs hdj had hk1 hP1
  subst hw
  exact kk H1 locs1 ls hP2 hD2 hS1 hl
theorem z_SvT {y : MethodName} {bytes : ByteArray} {maxL n index mc ms : Nat} {ret : Option FieldType} {wsy : List Cond} {rm : Room} {As rest st0 : List Value} {wc wc' X0 X1 pl : va_W}   (X : ZC p s m args meth c cc nL own Ts D cA g A) (cw : CallB R s args own index y bytes maxL ret wsy rm mc ms n ∧ (Cond.static y).before args s = true) (hM : ∀ sz, Met l y wsy rm (va_Pc As (PreW D cA g sz wc)) (va_Qv (fun (_ : Unit) => True) (PostW D cA sz wc wc') (va_A wc sz)) mc ms (va_A wc sz)) (isC src : List Nat) (hC : isC.map (fun i => X0[i]?) = wc.map some) (hnd : va_nd isC = true) (hs : src.map (zs X0 wc') = X1.map some) (hdj : (src.all fun i => Nat.ble 1000 i || !isC.contains i) = true) (had : X1.map (fun q => q.1) = X0.map (fun q => q.1))  (hn : As.length = n) (hst : st0 = As.reverse ++ rest) (hroom : (rest.map fun v => v.category).sum ≤ 8) (hdg : decode cc pc = .ok (.invokestatic index, 3)) (hf : cells + mc ≤ R.cells ∧ slots + ms ≤ R.slots) (kk : ZW p l e R s m args below meth c D A nL (cells + mc) (slots + ms) Q (X1 ++ pl) lv (pc + 3) rest) : ZW p l e R s m args below meth c D A nL cells slots Q (X0 ++ pl) lv pc st0 := by
  intro H locs ls hP hD hS hl
  subst hst
  have hC2 := z_subT (pl := pl) hC
  have hPc := z_P hP isC hC2
  have hDc := hD.sub isC hnd hC2
  have hFc := va_free hD hS X.2.2.2.2.2.2.1 isC hC2
  have hXc := (X.2.2.2.2.2.2.2.2.kept hS.2.1).narrow hFc
  refine va_callv (va_runS (As := As) (rest := rest) ⟨X.1, X.2.1, X.2.2.1, X.2.2.2.1, X.2.2.2.2.1⟩ (hM H.size) cw ⟨pre_blind, fun U hU hW => ⟨rfl, by rw [hU], by rw [hU]; exact hPc, va_K.moved hW.alike X.2.2.2.2.2.1, hDc.weaken (fun _ _ _ _ => trivial), by rw [hU]; exact hXc.warm hW⟩⟩ rfl hn hl.1 rfl (lv_room hroom) hdg hf) hS (fun q _ h => hFc q h) hFc (fun u t H1 locs1 ht hvm hw hB hz1 hk1 hS1 => ?_)
  obtain ⟨hP1, -, -⟩ := hB
  rw [ht] at hP1
  obtain ⟨hP2, hD2⟩ := z_frameT hP hD isC src hC hs hdj had hk1 hP1
  exact kk H1 locs1 ls hP2 hD2 hS1 hl
theorem z_Pi {y : MethodName} {bytes : ByteArray} {maxL n index mc ms : Nat} {ret : Option FieldType} {wsy : List Cond} {rm : Room} {As rest st0 : List Value} {wc wc' X0 X1 pl : va_W} {rv : Int32} {C : String} {b : Nat} {ci : Nat} {q : vw_C} {fs : List Value} {Pl : va_W → Prop} (X : ZC p s m args meth c cc nL own Ts D cA g A) (Y : ny s) (cw : CallW R s args own C index y bytes maxL ret wsy rm mc ms n) (hM : ∀ sz, Met l y wsy rm (va_Pc (.ref b :: As) (PreN D cA g sz (wc ++ pl))) (va_Qi (fun (r : Int32) (_ : va_W) => r = rv) (PostT D cA sz (wc ++ pl) wc' Pl) (va_A (wc ++ pl) sz)) mc ms (va_A (wc ++ pl) sz)) (isC src : List Nat) (hC : isC.map (fun i => X0[i]?) = wc.map some) (hnd : va_nd isC = true) (hs : src.map (zs X0 wc') = X1.map some) (hdj : (src.all fun i => Nat.ble 1000 i || !isC.contains i) = true) (had : X1.map (fun q => q.1) = X0.map (fun q => q.1)) (hcl : vwCl[ci]? = some q) (hq : q.1 = C) (hb0 : wc[0]? = some (b, .inr (ci, fs))) (hn : As.length = n) (hst : st0 = As.reverse ++ .ref b :: rest) (hroom : (rest.map fun v => v.category).sum ≤ 8) (hdg : decode cc pc = .ok (.invokevirtual index, 3)) (hf : cells + mc ≤ R.cells ∧ slots + ms ≤ R.slots) (kk : ∀ pl' : va_W, Pl pl' → ZW p l e R s m args below meth c D A nL (cells + mc) (slots + ms) Q (X1 ++ pl') lv (pc + 3) (.int rv :: rest)) : ZW p l e R s m args below meth c D A nL cells slots Q (X0 ++ pl) lv pc st0 := by
  intro H locs ls hP hD hS hl
  subst hst
  have left : ∀ (k : Nat) (z : Nat × va_E), X0[k]? = some z → (X0 ++ pl)[k]? = some z := fun k z h => by rw [List.getElem?_append_left (List.getElem?_eq_some_iff.mp h).1]; exact h
  have right : ∀ (k : Nat) (z : Nat × va_E), pl[k]? = some z → (X0 ++ pl)[X0.length + k]? = some z := fun k z h => by
    rw [List.getElem?_append_right (by omega), Nat.add_sub_cancel_left]; exact h
  have inn : ∀ (k : Nat) (z : Nat × va_E), (wc ++ pl)[k]? = some z → ∃ i, (X0 ++ pl)[i]? = some z ∧ ((∃ h, isC[k]? = some i ∧ h = k ∧ k < wc.length) ∨ (wc.length ≤ k ∧ i = X0.length + (k - wc.length))) := by
    intro k z hk
    by_cases hlt : k < wc.length
    · rw [List.getElem?_append_left hlt] at hk
      obtain ⟨i, h1, h2⟩ := va_in_of isC hC hk
      exact ⟨i, left i z h2, Or.inl ⟨k, h1, rfl, hlt⟩⟩
    · rw [List.getElem?_append_right (by omega)] at hk
      exact ⟨_, right _ z hk, Or.inr ⟨by omega, rfl⟩⟩
  have hPc : va_P D vwCl (wc ++ pl) H := fun k z hk => by
    obtain ⟨i, h1, -⟩ := inn k z hk
    exact hP i z h1
  have hDX : va_D A X0 := ⟨fun i j x y hx hy => hD.1 i j x y (left i x hx) (left j y hy), fun k z h => hD.2 k z (left k z h)⟩
  have hPX : va_P D vwCl X0 H := fun k z h => hP k z (left k z h)
  have hDc : va_D A (wc ++ pl) := va_D.app (hDX.sub isC hnd hC) ⟨fun i j x y hx hy hxy => by have := hD.1 _ _ x y (right i x hx) (right j y hy) hxy; omega, fun k z h => hD.2 _ z (right k z h)⟩ (fun i j x y hx hy hxy => by
    obtain ⟨a1, h1, h2⟩ := va_in_of isC hC hx
    have h3 := (List.getElem?_eq_some_iff.mp h2).1
    have := hD.1 a1 _ x y (left a1 x h2) (right j y hy) hxy
    omega)
  have hFc : ∀ z, va_A (wc ++ pl) H.size z → A z := fun z h => by
    rcases h with ⟨k, e2, h⟩ | h
    · obtain ⟨i, h1, -⟩ := inn k _ h
      exact hD.2 i _ h1
    · exact X.2.2.2.2.2.2.1 z (Nat.le_trans hS.1 h)
  have hXc := (X.2.2.2.2.2.2.2.2.kept hS.2.1).narrow hFc
  refine va_calli (va_runV (As := As) (rest := rest) ⟨X.1, X.2.1, X.2.2.1, X.2.2.2.1, X.2.2.2.2.1⟩ (hM H.size) cw ⟨preN_blind, by rw [← hq]; exact va_recv X.2.2.2.2.2.1 hPc hcl (q0 := 0) (by rw [List.getElem?_append_left (List.getElem?_eq_some_iff.mp hb0).1]; exact hb0), fun U hU hW => ⟨rfl, ⟨by rw [hU], by rw [hU]; exact hPc, va_K.moved hW.alike X.2.2.2.2.2.1, hDc.weaken (fun _ _ _ _ => trivial), by rw [hU]; exact hXc.warm hW⟩, Y.warm hW⟩⟩ rfl hn hl.1 rfl (lv_room hroom) hdg hf) hS (fun z _ h => hFc z h) hFc (fun r u t H1 locs1 ht hvm hw hB hz1 hk1 hS1 => ?_)
  obtain ⟨hPl, hP1, -, hD1⟩ := hB
  rw [ht] at hP1
  have hPw : va_P D vwCl wc' H1 := fun k z h => hP1 k z (by rw [List.getElem?_append_left (List.getElem?_eq_some_iff.mp h).1]; exact h)
  have hPp : va_P D vwCl u H1 := fun k z h => hP1 (wc'.length + k) z (by rw [List.getElem?_append_right (by omega), Nat.add_sub_cancel_left]; exact h)
  -- what of X0 isn't the callee's stays
  have hout : ∀ (i : Nat) (z : Nat × va_E), X0[i]? = some z → i ∉ isC → ¬ va_A (wc ++ pl) H.size z.1 := fun i z hz hi ha => by
    rcases ha with ⟨k, e2, h⟩ | h
    · obtain ⟨j, h1, h2⟩ := inn k _ h
      have hij := hD.1 i j z (z.1, e2) (left i z hz) h1 rfl
      rcases h2 with ⟨_, h3, _, _⟩ | ⟨_, h3⟩
      · rw [← hij] at h3; exact hi (List.mem_of_getElem? h3)
      · have := (List.getElem?_eq_some_iff.mp hz).1; omega
    · exact absurd (hPX i z hz).lt (Nat.not_lt.mpr h)
  have hsrc : ∀ (k : Nat) (z : Nat × va_E), X1[k]? = some z → (∃ j, wc'[j]? = some z) ∨ ∃ i, X0[i]? = some z ∧ i ∉ isC := fun k z hz => by
    have h1 : (src.map (zs X0 wc'))[k]? = some (some z) := by rw [hs, List.getElem?_map, hz]; rfl
    rw [List.getElem?_map] at h1
    cases hi : src[k]? with
    | none => rw [hi] at h1; cases h1
    | some i =>
      rw [hi] at h1
      have h2 : zs X0 wc' i = some z := Option.some.inj h1
      have h3 := List.all_eq_true.mp hdj i (List.mem_of_getElem? hi)
      unfold zs at h2
      cases hb : Nat.ble 1000 i with
      | true => rw [hb] at h2; exact Or.inl ⟨_, h2⟩
      | false =>
        rw [hb] at h2 h3
        exact Or.inr ⟨i, h2, fun hm => by simp [hm] at h3⟩
  have hP2 : va_P D vwCl X1 H1 := fun k z hz => by
    rcases hsrc k z hz with ⟨j, hj⟩ | ⟨i, hi, hn2⟩
    · exact hPw j z hj
    · have hat := hPX i z hi
      exact hat.kept (hk1 z.1 hat.lt (hout i z hi hn2))
  have hD2 : va_D A X1 := vD_of_nodup (by rw [had]; exact vD_nodup hDX) (fun z hz => by
    obtain ⟨k, hk⟩ := List.getElem?_of_mem hz
    have h1 : (X1.map (fun q => q.1))[k]? = some z.1 := by rw [List.getElem?_map, hk]; rfl
    rw [had, List.getElem?_map] at h1
    cases hw2 : X0[k]? with
    | none => rw [hw2] at h1; cases h1
    | some z2 =>
      rw [hw2] at h1
      have h2 : z2.1 = z.1 := Option.some.inj h1
      rw [← h2]
      exact hDX.2 k z2 hw2)
  have hDu : va_D A u := ⟨fun i j x y hx hy hxy => by
    have := hD1.1 (wc'.length + i) (wc'.length + j) x y (by rw [List.getElem?_append_right (by omega), Nat.add_sub_cancel_left]; exact hx) (by rw [List.getElem?_append_right (by omega), Nat.add_sub_cancel_left]; exact hy) hxy
    omega, fun k z h => hFc _ (hD1.2 (wc'.length + k) z (by rw [List.getElem?_append_right (by omega), Nat.add_sub_cancel_left]; exact h))⟩
  have hap : ∀ (i j : Nat) (x y : Nat × va_E), X1[i]? = some x → u[j]? = some y → x.1 ≠ y.1 := fun i j x y hx hy hxy => by
    have hyA := hD1.2 (wc'.length + j) y (by rw [List.getElem?_append_right (by omega), Nat.add_sub_cancel_left]; exact hy)
    rcases hsrc i x hx with ⟨j2, hj2⟩ | ⟨i2, hi2, hn2⟩
    · have hl2 := (List.getElem?_eq_some_iff.mp hj2).1
      have := hD1.1 j2 (wc'.length + j) x y (by rw [List.getElem?_append_left hl2]; exact hj2) (by rw [List.getElem?_append_right (by omega), Nat.add_sub_cancel_left]; exact hy) hxy
      omega
    · exact hout i2 x hi2 hn2 (by rw [hxy]; exact hyA)
  subst hw
  exact kk u hPl H1 locs1 ls (hP2.app hPp) (va_D.app hD2 hDu hap) hS1 hl
theorem z_Pv {y : MethodName} {bytes : ByteArray} {maxL n index mc ms : Nat} {ret : Option FieldType} {wsy : List Cond} {rm : Room} {As rest st0 : List Value} {wc wc' X0 X1 pl : va_W}  {C : String} {b : Nat} {ci : Nat} {q : vw_C} {fs : List Value} {Pl : va_W → Prop} (X : ZC p s m args meth c cc nL own Ts D cA g A) (Y : ny s) (cw : CallW R s args own C index y bytes maxL ret wsy rm mc ms n) (hM : ∀ sz, Met l y wsy rm (va_Pc (.ref b :: As) (PreN D cA g sz (wc ++ pl))) (va_Qv (fun (_ : va_W) => True) (PostT D cA sz (wc ++ pl) wc' Pl) (va_A (wc ++ pl) sz)) mc ms (va_A (wc ++ pl) sz)) (isC src : List Nat) (hC : isC.map (fun i => X0[i]?) = wc.map some) (hnd : va_nd isC = true) (hs : src.map (zs X0 wc') = X1.map some) (hdj : (src.all fun i => Nat.ble 1000 i || !isC.contains i) = true) (had : X1.map (fun q => q.1) = X0.map (fun q => q.1)) (hcl : vwCl[ci]? = some q) (hq : q.1 = C) (hb0 : wc[0]? = some (b, .inr (ci, fs))) (hn : As.length = n) (hst : st0 = As.reverse ++ .ref b :: rest) (hroom : (rest.map fun v => v.category).sum ≤ 8) (hdg : decode cc pc = .ok (.invokevirtual index, 3)) (hf : cells + mc ≤ R.cells ∧ slots + ms ≤ R.slots) (kk : ∀ pl' : va_W, Pl pl' → ZW p l e R s m args below meth c D A nL (cells + mc) (slots + ms) Q (X1 ++ pl') lv (pc + 3) rest) : ZW p l e R s m args below meth c D A nL cells slots Q (X0 ++ pl) lv pc st0 := by
  intro H locs ls hP hD hS hl
  subst hst
  have left : ∀ (k : Nat) (z : Nat × va_E), X0[k]? = some z → (X0 ++ pl)[k]? = some z := fun k z h => by rw [List.getElem?_append_left (List.getElem?_eq_some_iff.mp h).1]; exact h
  have right : ∀ (k : Nat) (z : Nat × va_E), pl[k]? = some z → (X0 ++ pl)[X0.length + k]? = some z := fun k z h => by
    rw [List.getElem?_append_right (by omega), Nat.add_sub_cancel_left]; exact h
  have inn : ∀ (k : Nat) (z : Nat × va_E), (wc ++ pl)[k]? = some z → ∃ i, (X0 ++ pl)[i]? = some z ∧ ((∃ h, isC[k]? = some i ∧ h = k ∧ k < wc.length) ∨ (wc.length ≤ k ∧ i = X0.length + (k - wc.length))) := by
    intro k z hk
    by_cases hlt : k < wc.length
    · rw [List.getElem?_append_left hlt] at hk
      obtain ⟨i, h1, h2⟩ := va_in_of isC hC hk
      exact ⟨i, left i z h2, Or.inl ⟨k, h1, rfl, hlt⟩⟩
    · rw [List.getElem?_append_right (by omega)] at hk
      exact ⟨_, right _ z hk, Or.inr ⟨by omega, rfl⟩⟩
  have hPc : va_P D vwCl (wc ++ pl) H := fun k z hk => by
    obtain ⟨i, h1, -⟩ := inn k z hk
    exact hP i z h1
  have hDX : va_D A X0 := ⟨fun i j x y hx hy => hD.1 i j x y (left i x hx) (left j y hy), fun k z h => hD.2 k z (left k z h)⟩
  have hPX : va_P D vwCl X0 H := fun k z h => hP k z (left k z h)
  have hDc : va_D A (wc ++ pl) := va_D.app (hDX.sub isC hnd hC) ⟨fun i j x y hx hy hxy => by have := hD.1 _ _ x y (right i x hx) (right j y hy) hxy; omega, fun k z h => hD.2 _ z (right k z h)⟩ (fun i j x y hx hy hxy => by
    obtain ⟨a1, h1, h2⟩ := va_in_of isC hC hx
    have h3 := (List.getElem?_eq_some_iff.mp h2).1
    have := hD.1 a1 _ x y (left a1 x h2) (right j y hy) hxy
    omega)
  have hFc : ∀ z, va_A (wc ++ pl) H.size z → A z := fun z h => by
    rcases h with ⟨k, e2, h⟩ | h
    · obtain ⟨i, h1, -⟩ := inn k _ h
      exact hD.2 i _ h1
    · exact X.2.2.2.2.2.2.1 z (Nat.le_trans hS.1 h)
  have hXc := (X.2.2.2.2.2.2.2.2.kept hS.2.1).narrow hFc
  refine va_callv (va_runV (As := As) (rest := rest) ⟨X.1, X.2.1, X.2.2.1, X.2.2.2.1, X.2.2.2.2.1⟩ (hM H.size) cw ⟨preN_blind, by rw [← hq]; exact va_recv X.2.2.2.2.2.1 hPc hcl (q0 := 0) (by rw [List.getElem?_append_left (List.getElem?_eq_some_iff.mp hb0).1]; exact hb0), fun U hU hW => ⟨rfl, ⟨by rw [hU], by rw [hU]; exact hPc, va_K.moved hW.alike X.2.2.2.2.2.1, hDc.weaken (fun _ _ _ _ => trivial), by rw [hU]; exact hXc.warm hW⟩, Y.warm hW⟩⟩ rfl hn hl.1 rfl (lv_room hroom) hdg hf) hS (fun z _ h => hFc z h) hFc (fun u t H1 locs1 ht hvm hw hB hz1 hk1 hS1 => ?_)
  obtain ⟨hPl, hP1, -, hD1⟩ := hB
  rw [ht] at hP1
  have hPw : va_P D vwCl wc' H1 := fun k z h => hP1 k z (by rw [List.getElem?_append_left (List.getElem?_eq_some_iff.mp h).1]; exact h)
  have hPp : va_P D vwCl u H1 := fun k z h => hP1 (wc'.length + k) z (by rw [List.getElem?_append_right (by omega), Nat.add_sub_cancel_left]; exact h)
  -- what of X0 isn't the callee's stays
  have hout : ∀ (i : Nat) (z : Nat × va_E), X0[i]? = some z → i ∉ isC → ¬ va_A (wc ++ pl) H.size z.1 := fun i z hz hi ha => by
    rcases ha with ⟨k, e2, h⟩ | h
    · obtain ⟨j, h1, h2⟩ := inn k _ h
      have hij := hD.1 i j z (z.1, e2) (left i z hz) h1 rfl
      rcases h2 with ⟨_, h3, _, _⟩ | ⟨_, h3⟩
      · rw [← hij] at h3; exact hi (List.mem_of_getElem? h3)
      · have := (List.getElem?_eq_some_iff.mp hz).1; omega
    · exact absurd (hPX i z hz).lt (Nat.not_lt.mpr h)
  have hsrc : ∀ (k : Nat) (z : Nat × va_E), X1[k]? = some z → (∃ j, wc'[j]? = some z) ∨ ∃ i, X0[i]? = some z ∧ i ∉ isC := fun k z hz => by
    have h1 : (src.map (zs X0 wc'))[k]? = some (some z) := by rw [hs, List.getElem?_map, hz]; rfl
    rw [List.getElem?_map] at h1
    cases hi : src[k]? with
    | none => rw [hi] at h1; cases h1
    | some i =>
      rw [hi] at h1
      have h2 : zs X0 wc' i = some z := Option.some.inj h1
      have h3 := List.all_eq_true.mp hdj i (List.mem_of_getElem? hi)
      unfold zs at h2
      cases hb : Nat.ble 1000 i with
      | true => rw [hb] at h2; exact Or.inl ⟨_, h2⟩
      | false =>
        rw [hb] at h2 h3
        exact Or.inr ⟨i, h2, fun hm => by simp [hm] at h3⟩
  have hP2 : va_P D vwCl X1 H1 := fun k z hz => by
    rcases hsrc k z hz with ⟨j, hj⟩ | ⟨i, hi, hn2⟩
    · exact hPw j z hj
    · have hat := hPX i z hi
      exact hat.kept (hk1 z.1 hat.lt (hout i z hi hn2))
  have hD2 : va_D A X1 := vD_of_nodup (by rw [had]; exact vD_nodup hDX) (fun z hz => by
    obtain ⟨k, hk⟩ := List.getElem?_of_mem hz
    have h1 : (X1.map (fun q => q.1))[k]? = some z.1 := by rw [List.getElem?_map, hk]; rfl
    rw [had, List.getElem?_map] at h1
    cases hw2 : X0[k]? with
    | none => rw [hw2] at h1; cases h1
    | some z2 =>
      rw [hw2] at h1
      have h2 : z2.1 = z.1 := Option.some.inj h1
      rw [← h2]
      exact hDX.2 k z2 hw2)
  have hDu : va_D A u := ⟨fun i j x y hx hy hxy => by
    have := hD1.1 (wc'.length + i) (wc'.length + j) x y (by rw [List.getElem?_append_right (by omega), Nat.add_sub_cancel_left]; exact hx) (by rw [List.getElem?_append_right (by omega), Nat.add_sub_cancel_left]; exact hy) hxy
    omega, fun k z h => hFc _ (hD1.2 (wc'.length + k) z (by rw [List.getElem?_append_right (by omega), Nat.add_sub_cancel_left]; exact h))⟩
  have hap : ∀ (i j : Nat) (x y : Nat × va_E), X1[i]? = some x → u[j]? = some y → x.1 ≠ y.1 := fun i j x y hx hy hxy => by
    have hyA := hD1.2 (wc'.length + j) y (by rw [List.getElem?_append_right (by omega), Nat.add_sub_cancel_left]; exact hy)
    rcases hsrc i x hx with ⟨j2, hj2⟩ | ⟨i2, hi2, hn2⟩
    · have hl2 := (List.getElem?_eq_some_iff.mp hj2).1
      have := hD1.1 j2 (wc'.length + j) x y (by rw [List.getElem?_append_left hl2]; exact hj2) (by rw [List.getElem?_append_right (by omega), Nat.add_sub_cancel_left]; exact hy) hxy
      omega
    · exact hout i2 x hi2 hn2 (by rw [hxy]; exact hyA)
  exact kk u hPl H1 locs1 ls (hP2.app hPp) (va_D.app hD2 hDu hap) hS1 hl
theorem z_iretT {w0 w1 pl : va_W} {mc ms : Nat} {v rv : Int32} {Pl : va_W → Prop} (X : ZC p s m args meth c cc nL own Ts D cA g A) (hA : A = va_A w0 s.heap.size) (hQ : Q = MQ below (va_Qi (fun (r : Int32) (_ : va_W) => r = rv) (PostT D cA s.heap.size w0 w1 Pl) (va_A w0 s.heap.size)) args s mc ms (va_A w0 s.heap.size)) (hr : meth.sig.returnType = some .int) (hPl : Pl pl)  (hv : v = rv) (hdg : decode cc pc = .ok (.ireturn, 1)) (hc : cells ≤ mc) (hs : slots ≤ ms) : ZW p l e R s m args below meth c D A nL cells slots Q (w1 ++ pl) lv pc [.int v] := by
  subst hA
  subst hQ
  exact fun H locs ls hP hD hS hl => W.widen hc hs (W.iret X.1 X.2.1 hr  (fun t ht hW => ⟨⟨v, pl, rfl, hv, hPl, by rw [ht]; exact hP, va_K.moved hW.alike X.2.2.2.2.2.1, hD⟩, hS.F ht⟩) hS.2.2 hdg (hlocks := X.2.2.2.2.2.2.2.1))
theorem z_zretT {w0 w1 pl : va_W} {mc ms : Nat} {v rv : Int32} {Pl : va_W → Prop} (X : ZC p s m args meth c cc nL own Ts D cA g A) (hA : A = va_A w0 s.heap.size) (hQ : Q = MQ below (va_Qi (fun (r : Int32) (_ : va_W) => r = rv) (PostT D cA s.heap.size w0 w1 Pl) (va_A w0 s.heap.size)) args s mc ms (va_A w0 s.heap.size)) (hr : meth.sig.returnType = some .boolean) (hPl : Pl pl) (h01 : v = 0 ∨ v = 1) (hv : v = rv) (hdg : decode cc pc = .ok (.ireturn, 1)) (hc : cells ≤ mc) (hs : slots ≤ ms) : ZW p l e R s m args below meth c D A nL cells slots Q (w1 ++ pl) lv pc [.int v] := by
  subst hA
  subst hQ
  exact fun H locs ls hP hD hS hl => W.widen hc hs (W.zret X.1 X.2.1 hr (by rcases h01 with h | h <;> subst h <;> rfl) (fun t ht hW => ⟨⟨v, pl, rfl, hv, hPl, by rw [ht]; exact hP, va_K.moved hW.alike X.2.2.2.2.2.1, hD⟩, hS.F ht⟩) hS.2.2 hdg (hlocks := X.2.2.2.2.2.2.2.1))
theorem z_vretT {w0 w1 pl : va_W} {mc ms : Nat} {Pl : va_W → Prop} (X : ZC p s m args meth c cc nL own Ts D cA g A) (hA : A = va_A w0 s.heap.size) (hQ : Q = MQ below (va_Qv (fun (_ : va_W) => True) (PostT D cA s.heap.size w0 w1 Pl) (va_A w0 s.heap.size)) args s mc ms (va_A w0 s.heap.size)) (hr : meth.sig.returnType = none) (hPl : Pl pl) (hdg : decode cc pc = .ok (.return_, 1)) (hc : cells ≤ mc) (hs : slots ≤ ms) : ZW p l e R s m args below meth c D A nL cells slots Q (w1 ++ pl) lv pc [] := by
  subst hA
  subst hQ
  exact fun H locs ls hP hD hS hl => W.widen hc hs (W.vret X.1 X.2.1 hr (fun t ht hW => ⟨⟨pl, rfl, trivial, hPl, by rw [ht]; exact hP, va_K.moved hW.alike X.2.2.2.2.2.1, hD⟩, hS.F ht⟩) hS.2.2 hdg (hlocks := X.2.2.2.2.2.2.2.1))
end ZP
