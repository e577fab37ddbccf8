abbrev wD (cA : Nat → ClassId) (h : Nat) (A : Nat → Nat → Nat) (o0 o1 o2 o3 o4 o5 o6 o7 o8 o9 o10 o11 o12 o13 o14 o15 o16 o17 : Ob) : va_W := [(h, .inr (11, [.ref ((A 0) 0), .ref ((A 0) 1), .ref ((A 0) 2), .ref ((A 0) 3), .ref ((A 0) 4), .ref ((A 0) 5), .ref ((A 0) 6), .ref ((A 0) 7), .ref ((A 0) 8), .ref ((A 0) 9), .ref ((A 0) 10), .ref ((A 0) 11), .ref ((A 0) 12), .int (o0 13 0), .int (o0 14 0)])), ((A 0) 12, .inl (cA 0, 20, .inl (o0 12))), ((A 0 0), .inr (6, [.ref ((A 1) 0), .int (o1 1 0), .int (o1 2 0), .int (o1 3 0), .int (o1 4 0), .int (o1 5 0), .int (o1 6 0), .int (o1 7 0), .ref ((A 1) 8), .int (o1 9 0), .int (o1 10 0), .ref ((A 1) 11), .ref ((A 1) 12), .int (o1 13 0), .int (o1 14 0), .int (o1 15 0), .int (o1 16 0)])), ((A 1) 0, .inl (cA 0, 440, .inl (o1 0))), ((A 1) 8, .inl (cA 0, 40, .inl (o1 8))), ((A 1) 11, .inl (cA 0, 2, .inl (o1 11))), ((A 1) 12, .inl (cA 0, 2, .inl (o1 12))), ((A 0 1), .inr (10, [.int (o2 0 0), .ref ((A 2) 1), .ref ((A 2) 2), .ref ((A 2) 3), .ref ((A 2) 4)])), ((A 2) 1, .inl (cA 0, 8, .inl (o2 1))), ((A 2) 2, .inl (cA 0, 8, .inl (o2 2))), ((A 2) 3, .inl (cA 0, 8, .inl (o2 3))), ((A 2) 4, .inl (cA 0, 8, .inl (o2 4))), ((A 0 2), .inr (9, [.ref ((A 3) 0), .ref ((A 3) 1), .ref ((A 3) 2), .ref ((A 3) 3), .int (o3 4 0), .int (o3 5 0), .int (o3 6 0)])), ((A 3) 3, .inl (cA 4, 3, .inr (.inr (.inr (.inr (bk ((A 3) 20) ((A 3) 21) ((A 3) 22))))))), ((A 3 0), .inr (10, [.int (o4 0 0), .ref ((A 4) 1), .ref ((A 4) 2), .ref ((A 4) 3), .ref ((A 4) 4)])), ((A 4) 1, .inl (cA 0, 8, .inl (o4 1))), ((A 4) 2, .inl (cA 0, 8, .inl (o4 2))), ((A 4) 3, .inl (cA 0, 8, .inl (o4 3))), ((A 4) 4, .inl (cA 0, 8, .inl (o4 4))), ((A 3 1), .inr (8, [.int (o5 0 0), .int (o5 1 0), .int (o5 2 0), .int (o5 3 0), .ref ((A 5) 4), .ref ((A 5) 5), .ref ((A 5) 6)])), ((A 5) 4, .inl (cA 0, 8, .inl (o5 4))), ((A 5) 5, .inl (cA 0, 8, .inl (o5 5))), ((A 5) 6, .inl (cA 1, 8, .inr (.inr (.inl (fun j => (o5 6 j).toUInt32))))), ((A 3 2), .inr (4, [.int (o6 0 0), .ref ((A 6) 1), .ref ((A 6) 2), .ref ((A 6) 3), .ref ((A 6) 4)])), ((A 6) 1, .inl (cA 0, 40, .inl (o6 1))), ((A 6) 2, .inl (cA 0, 40, .inl (o6 2))), ((A 6) 3, .inl (cA 0, 40, .inl (o6 3))), ((A 6) 4, .inl (cA 0, 320, .inl (o6 4))), ((A 3 20), .inr (0, [.int (o7 0 0), .int (o7 1 0), .int (o7 2 0), .int (o7 3 0), .int (o7 4 0), .int (o7 5 0), .int (o7 6 0), .ref ((A 7) 7), .ref ((A 7) 8), .ref ((A 7) 9)])), ((A 7) 7, .inl (cA 0, 30, .inl (o7 7))), ((A 7) 8, .inl (cA 0, 30, .inl (o7 8))), ((A 7) 9, .inl (cA 0, 30, .inl (o7 9))), ((A 3 21), .inr (0, [.int (o8 0 0), .int (o8 1 0), .int (o8 2 0), .int (o8 3 0), .int (o8 4 0), .int (o8 5 0), .int (o8 6 0), .ref ((A 8) 7), .ref ((A 8) 8), .ref ((A 8) 9)])), ((A 8) 7, .inl (cA 0, 30, .inl (o8 7))), ((A 8) 8, .inl (cA 0, 30, .inl (o8 8))), ((A 8) 9, .inl (cA 0, 30, .inl (o8 9))), ((A 3 22), .inr (0, [.int (o9 0 0), .int (o9 1 0), .int (o9 2 0), .int (o9 3 0), .int (o9 4 0), .int (o9 5 0), .int (o9 6 0), .ref ((A 9) 7), .ref ((A 9) 8), .ref ((A 9) 9)])), ((A 9) 7, .inl (cA 0, 30, .inl (o9 7))), ((A 9) 8, .inl (cA 0, 30, .inl (o9 8))), ((A 9) 9, .inl (cA 0, 30, .inl (o9 9))), ((A 0 3), .inr (3, [.ref ((A 10) 0), .int (o10 1 0), .int (o10 2 0)])), ((A 0 5), .inr (2, [.ref ((A 11) 0), .int (o11 1 0), .int (o11 2 0)])), ((A 11) 0, .inl (cA 0, 60, .inl (o11 0))), ((A 0 6), .inr (1, [.int (o12 0 0), .ref ((A 12) 1), .ref ((A 12) 2), .ref ((A 12) 3)])), ((A 12) 1, .inl (cA 0, 9, .inl (o12 1))), ((A 12) 2, .inl (cA 0, 9, .inl (o12 2))), ((A 12) 3, .inl (cA 0, 9, .inl (o12 3))), ((A 0 7), .inr (8, [.int (o13 0 0), .int (o13 1 0), .int (o13 2 0), .int (o13 3 0), .ref ((A 13) 4), .ref ((A 13) 5), .ref ((A 13) 6)])), ((A 13) 4, .inl (cA 0, 8, .inl (o13 4))), ((A 13) 5, .inl (cA 0, 8, .inl (o13 5))), ((A 13) 6, .inl (cA 1, 8, .inr (.inr (.inl (fun j => (o13 6 j).toUInt32))))), ((A 0 8), .inr (5, [.int (o14 0 0), .ref ((A 14) 1), .ref ((A 14) 2), .ref ((A 14) 3), .ref ((A 14) 4), .int (o14 5 0), .int (o14 6 0), .int (o14 7 0), .int (o14 8 0), .ref ((A 14) 9)])), ((A 14) 1, .inl (cA 0, 10496, .inl (o14 1))), ((A 14) 2, .inl (cA 0, 256, .inl (o14 2))), ((A 14) 3, .inl (cA 0, 256, .inl (o14 3))), ((A 14) 4, .inl (cA 0, 256, .inl (o14 4))), ((A 14) 9, .inl (cA 0, 40, .inl (o14 9))), ((A 0 9), .inr (5, [.int (o15 0 0), .ref ((A 15) 1), .ref ((A 15) 2), .ref ((A 15) 3), .ref ((A 15) 4), .int (o15 5 0), .int (o15 6 0), .int (o15 7 0), .int (o15 8 0), .ref ((A 15) 9)])), ((A 15) 1, .inl (cA 0, 512, .inl (o15 1))), ((A 15) 2, .inl (cA 0, 256, .inl (o15 2))), ((A 15) 3, .inl (cA 0, 256, .inl (o15 3))), ((A 15) 4, .inl (cA 0, 256, .inl (o15 4))), ((A 15) 9, .inl (cA 0, 40, .inl (o15 9))), ((A 0 10), .inr (7, [.int (o16 0 0), .ref ((A 16) 1), .ref ((A 16) 2), .ref ((A 16) 3), .int (o16 4 0), .int (o16 5 0), .int (o16 6 0)])), ((A 16) 1, .inl (cA 0, 8, .inl (o16 1))), ((A 16) 2, .inl (cA 0, 256, .inl (o16 2))), ((A 16) 3, .inl (cA 0, 256, .inl (o16 3))), ((A 0 11), .inr (7, [.int (o17 0 0), .ref ((A 17) 1), .ref ((A 17) 2), .ref ((A 17) 3), .int (o17 4 0), .int (o17 5 0), .int (o17 6 0)])), ((A 17) 1, .inl (cA 0, 8, .inl (o17 1))), ((A 17) 2, .inl (cA 0, 256, .inl (o17 2))), ((A 17) 3, .inl (cA 0, 256, .inl (o17 3)))]
abbrev wC (cA : Nat → ClassId) (h : Nat) (A : Nat → Nat → Nat) (V : Nat → Ob) : va_W := wD cA h A (V 0) (V 1) (V 2) (V 3) (V 4) (V 5) (V 6) (V 7) (V 8) (V 9) (V 10) (V 11) (V 12) (V 13) (V 14) (V 15) (V 16) (V 17)
theorem Met.mono {l : Launch} {y : MethodName} {ws : List Cond} {rm : Room} {Pc Pc' : Array Value → State → Prop} {Qc Qc' : Array Value → State → Outcome → State → Prop} {mc ms : Nat} {free free' : Addr → Prop} (h : Met l y ws rm Pc Qc mc ms free) (h1 : ∀ a U, Pc' a U → Pc a U) (h2 : ∀ a st o t, Pc' a st → Qc a st o t → Qc' a st o t) (h3 : ∀ q, free q → free' q) : Met l y ws rm Pc' Qc' mc ms free' := by
  intro p e ha hc hk s m args below hf happ hP hK
  obtain ⟨n, o, a1, a2, a3, a4, L, a5, a6⟩ := h p e ha hc hk s m args below hf happ (h1 _ _ hP) hK
  exact ⟨n, o, a1, a2, a3, h2 _ _ _ _ hP a4, L, a5, fun q hq => h3 _ (a6 q hq)⟩
theorem pm_of {X : va_W} (n : Nat) (isC isR : List Nat) (h : (List.range n).Perm (isC ++ isR)) (h1 : (List.range n).filterMap (fun i => X[i]?) = X) : X.Perm (isC.filterMap (fun i => X[i]?) ++ isR.filterMap (fun i => X[i]?)) := by
  have h2 := h.filterMap (fun i => X[i]?)
  rw [h1, List.filterMap_append] at h2
  exact h2
def CW (cA : Nat → ClassId) (h : Nat) (A : Nat → Nat → Nat) (V : Nat → Ob) (PK PI : PV) (w : va_W) : Prop := ∃ plK plI : va_W, w.Perm (wC cA h A V ++ (plK ++ plI)) ∧ Pool cA (A 10 0) 8 PK plK ∧ Pool cA (A 0 4) 2 PI plI
def MW (cA : Nat → ClassId) (h : Nat) (a : Nat → Nat) (M : Ob) (w : va_W) : Prop := w.Perm (w_X12_four cA h a M)
section FR
variable {l : Launch} {y : MethodName} {wsy : List Cond} {rm : Room} {D : va_G} {cA : Nat → ClassId} {g : Nat → Nat} {sz mc ms : Nat} {av : List Value} {rv : Int32} {w c0 rest : va_W} {W' : va_W → Prop}
theorem vA_sub {sz : Nat} (hw : w.Perm (c0 ++ rest)) : ∀ q, va_A c0 sz q → va_A w sz q := fun q h => by
  rcases h with ⟨k, e, h⟩ | h
  · obtain ⟨i, hi⟩ := List.getElem?_of_mem (hw.mem_iff.mpr (List.mem_append_left rest (List.mem_of_getElem? h)))
    exact Or.inl ⟨i, e, hi⟩
  · exact Or.inr h
theorem fr_pre {U : State} (hw : w.Perm (c0 ++ rest)) (h : PreN D cA g sz w U) : PreN D cA g sz c0 U := by
  obtain ⟨⟨h1, h2, h3, h4, h5⟩, h6⟩ := h
  have hP := vP_perm hw h2
  have hD := vD_perm hw h4
  exact ⟨⟨h1, fun k q hk => hP k q (by rw [List.getElem?_append_left (List.getElem?_eq_some_iff.mp hk).1]; exact hk), h3, ⟨fun i j x y hx hy => hD.1 i j x y (by rw [List.getElem?_append_left (List.getElem?_eq_some_iff.mp hx).1]; exact hx) (by rw [List.getElem?_append_left (List.getElem?_eq_some_iff.mp hy).1]; exact hy), fun _ _ _ => trivial⟩, h5.narrow (vA_sub hw)⟩, h6⟩
theorem fr_post {st t : State} {c1 : va_W} (hw : w.Perm (c0 ++ rest)) (h : PreN D cA g sz w st) (hP1 : va_P D vwCl c1 t.heap) (hD1 : va_D (va_A c0 sz) c1) (hF : va_F (va_A c0 sz) st t) : va_P D vwCl (c1 ++ rest) t.heap ∧ va_D (va_A w sz) (c1 ++ rest) ∧ va_F (va_A w sz) st t := by
  obtain ⟨⟨h1, h2, h3, h4, h5⟩, h6⟩ := h
  have hP := vP_perm hw h2
  have hD0 : va_D (va_A w sz) w := h4.self
  have hD := vD_perm hw hD0
  have right : ∀ (k : Nat) (z : Nat × va_E), rest[k]? = some z → (c0 ++ rest)[c0.length + k]? = some z := fun k z h => by
    rw [List.getElem?_append_right (by omega), Nat.add_sub_cancel_left]; exact h
  have hout : ∀ (k : Nat) (z : Nat × va_E), rest[k]? = some z → z.1 < st.heap.size ∧ ¬ va_A c0 sz z.1 := fun k z hz => by
    have hlt := (hP _ z (right k z hz)).lt
    refine ⟨hlt, fun ha => ?_⟩
    rcases ha with ⟨j, e, hj⟩ | ha
    · have hjl := (List.getElem?_eq_some_iff.mp hj).1
      have := hD.1 j (c0.length + k) (z.1, e) z (by rw [List.getElem?_append_left hjl]; exact hj) (right k z hz) rfl
      omega
    · omega
  refine ⟨hP1.app (fun k z hz => ?_), va_D.app (hD1.weaken (fun k q _ h => vA_sub hw q.1 h)) ⟨fun i j x y hx hy hxy => ?_, fun k z hz => hD.2 _ z (right k z hz)⟩ (fun i j x y hx hy hxy => ?_), hF.1, fun q h1 h2 => hF.2 q h1 (fun h => h2 (vA_sub hw q h))⟩
  · exact (hP _ z (right k z hz)).kept (hF.2 z.1 (hout k z hz).1 (hout k z hz).2)
  · have := hD.1 _ _ x y (right i x hx) (right j y hy) hxy
    omega
  · exact (hout j y hy).2 (by rw [← hxy]; exact hD1.2 i x hx)
theorem fr_i {c1 : va_W} (hw : w.Perm (c0 ++ rest)) (hW : W' (c1 ++ rest)) (hM : Met l y wsy rm (va_Pc av (PreW D cA g sz c0)) (va_Qi (fun (r : Int32) (_ : Unit) => r = rv) (PostW D cA sz c0 c1) (va_A c0 sz)) mc ms (va_A c0 sz)) : Met l y wsy rm (va_Pc av (PreN D cA g sz w)) (va_Qi (fun (r : Int32) (_ : va_W) => r = rv) (PostT D cA sz w [] W') (va_A w sz)) mc ms (va_A w sz) := by
  refine hM.mono (fun a U h => ⟨h.1, (fr_pre hw h.2).1⟩) (fun a st o t h hq => ?_) (vA_sub hw)
  obtain ⟨⟨r, u, e1, e2, hP1, hK1, hD1⟩, hF⟩ := hq
  obtain ⟨q1, q2, q3⟩ := fr_post hw h.2 hP1 hD1 hF
  exact ⟨⟨r, c1 ++ rest, e1, e2, hW, q1, hK1, q2⟩, q3⟩
theorem fr_p {wc wc' pl : va_W} {Pl : va_W → Prop} (hw : w.Perm ((wc ++ pl) ++ rest)) (hW : ∀ pl', Pl pl' → W' ((wc' ++ pl') ++ rest)) (hM : Met l y wsy rm (va_Pc av (PreN D cA g sz (wc ++ pl))) (va_Qi (fun (r : Int32) (_ : va_W) => r = rv) (PostT D cA sz (wc ++ pl) wc' Pl) (va_A (wc ++ pl) sz)) mc ms (va_A (wc ++ pl) sz)) : Met l y wsy rm (va_Pc av (PreN D cA g sz w)) (va_Qi (fun (r : Int32) (_ : va_W) => r = rv) (PostT D cA sz w [] W') (va_A w sz)) mc ms (va_A w sz) := by
  refine hM.mono (fun a U h => ⟨h.1, fr_pre hw h.2⟩) (fun a st o t h hq => ?_) (vA_sub hw)
  obtain ⟨⟨r, u, e1, e2, hPl, hP1, hK1, hD1⟩, hF⟩ := hq
  obtain ⟨q1, q2, q3⟩ := fr_post hw h.2 hP1 hD1 hF
  exact ⟨⟨r, (wc' ++ u) ++ rest, e1, e2, hW u hPl, q1, hK1, q2⟩, q3⟩
end FR
theorem fm_some {X Y : va_W} : ∀ {is : List Nat}, is.map (fun i => X[i]?) = Y.map some → is.filterMap (fun i => X[i]?) = Y := by
  intro is
  induction is generalizing Y with
  | nil => intro h; cases Y with | nil => rfl | cons y Y => cases h
  | cons i is ih =>
    intro h
    cases Y with
    | nil => cases h
    | cons y Y =>
      have h1 : X[i]? = some y := (List.cons.inj h).1
      rw [List.filterMap_cons, h1]
      exact congrArg (fun l => y :: l) (ih (List.cons.inj h).2)
theorem fm_eq {X X' : va_W} : ∀ {is : List Nat}, is.map (fun i => X[i]?) = is.map (fun i => X'[i]?) → is.filterMap (fun i => X[i]?) = is.filterMap (fun i => X'[i]?) := by
  intro is
  induction is with
  | nil => intro _; rfl
  | cons i is ih =>
    intro h
    have h1 : X[i]? = X'[i]? := (List.cons.inj h).1
    rw [List.filterMap_cons, List.filterMap_cons, h1, ih (List.cons.inj h).2]
theorem cw_n {cA : Nat → ClassId} {h : Nat} {A : Nat → Nat → Nat} {V : Nat → Ob} {plK plI w wc : va_W} (isC isR : List Nat) (hp : (List.range 71).Perm (isC ++ isR)) (h1 : isC.map (fun i => (wC cA h A V)[i]?) = wc.map some) (hw : w.Perm (wC cA h A V ++ (plK ++ plI))) : w.Perm (wc ++ (isR.filterMap (fun i => (wC cA h A V)[i]?) ++ (plK ++ plI))) := by
  have h2 := (pm_of (X := wC cA h A V) 71 isC isR hp rfl).append_right (plK ++ plI)
  rw [List.append_assoc, fm_some h1] at h2
  exact hw.trans h2
theorem cw_b {X X' plK plI c : va_W} (n : Nat) (isC isR : List Nat) (hp : (List.range n).Perm (isC ++ isR)) (h0 : (List.range n).filterMap (fun i => X'[i]?) = X') (h1 : isC.map (fun i => X'[i]?) = c.map some) {Z : va_W} (h2 : isR.map (fun i => X[i]?) = Z.map some) (h4 : isR.map (fun i => X'[i]?) = Z.map some) : (c ++ (isR.filterMap (fun i => X[i]?) ++ (plK ++ plI))).Perm (X' ++ (plK ++ plI)) := by
  have h3 := (pm_of (X := X') n isC isR hp h0).append_right (plK ++ plI)
  rw [List.append_assoc, fm_some h1, fm_some h4, ← fm_some h2] at h3
  exact h3.symm
theorem cw_k {c r k i : va_W} : (c ++ (r ++ (k ++ i))).Perm ((c ++ k) ++ (r ++ i)) := by
  rw [List.append_assoc]
  refine List.Perm.append_left _ ?_
  rw [← List.append_assoc, ← List.append_assoc]
  exact List.perm_append_comm.append_right _
theorem cw_i {c r k i : va_W} : (c ++ (r ++ (k ++ i))).Perm ((c ++ i) ++ (r ++ k)) := by
  rw [List.append_assoc]
  refine List.Perm.append_left _ ?_
  rw [← List.append_assoc]
  exact List.perm_append_comm

