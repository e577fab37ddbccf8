abbrev wC (cA : Nat → ClassId) (h : Nat) (A : Nat → Nat → Nat) (V : Nat → Ob) : va_W := [(h, .inr (11, [.ref ((A 0) 0), .ref ((A 0) 1), .ref ((A 0) 2), .ref ((A 0) 3), .ref ((A 0) 4), .ref ((A 0) 5), .ref ((A 0) 6), .ref ((A 0) 7), .ref ((A 0) 8), .ref ((A 0) 9), .ref ((A 0) 10), .ref ((A 0) 11), .ref ((A 0) 12), .int ((V 0) 13 0), .int ((V 0) 14 0)])), ((A 0) 12, .inl (cA 0, 20, .inl ((V 0) 12))), ((A 0 0), .inr (6, [.ref ((A 1) 0), .int ((V 1) 1 0), .int ((V 1) 2 0), .int ((V 1) 3 0), .int ((V 1) 4 0), .int ((V 1) 5 0), .int ((V 1) 6 0), .int ((V 1) 7 0), .ref ((A 1) 8), .int ((V 1) 9 0), .int ((V 1) 10 0), .ref ((A 1) 11), .ref ((A 1) 12), .int ((V 1) 13 0), .int ((V 1) 14 0), .int ((V 1) 15 0), .int ((V 1) 16 0)])), ((A 1) 0, .inl (cA 0, 440, .inl ((V 1) 0))), ((A 1) 8, .inl (cA 0, 40, .inl ((V 1) 8))), ((A 1) 11, .inl (cA 0, 2, .inl ((V 1) 11))), ((A 1) 12, .inl (cA 0, 2, .inl ((V 1) 12))), ((A 0 1), .inr (10, [.int ((V 2) 0 0), .ref ((A 2) 1), .ref ((A 2) 2), .ref ((A 2) 3), .ref ((A 2) 4)])), ((A 2) 1, .inl (cA 0, 8, .inl ((V 2) 1))), ((A 2) 2, .inl (cA 0, 8, .inl ((V 2) 2))), ((A 2) 3, .inl (cA 0, 8, .inl ((V 2) 3))), ((A 2) 4, .inl (cA 0, 8, .inl ((V 2) 4))), ((A 0 2), .inr (9, [.ref ((A 3) 0), .ref ((A 3) 1), .ref ((A 3) 2), .ref ((A 3) 3), .int ((V 3) 4 0), .int ((V 3) 5 0), .int ((V 3) 6 0)])), ((A 3) 3, .inl (cA 4, 3, .inr (.inr (.inr (.inr (bk ((A 3) 20) ((A 3) 21) ((A 3) 22))))))), ((A 3 0), .inr (10, [.int ((V 4) 0 0), .ref ((A 4) 1), .ref ((A 4) 2), .ref ((A 4) 3), .ref ((A 4) 4)])), ((A 4) 1, .inl (cA 0, 8, .inl ((V 4) 1))), ((A 4) 2, .inl (cA 0, 8, .inl ((V 4) 2))), ((A 4) 3, .inl (cA 0, 8, .inl ((V 4) 3))), ((A 4) 4, .inl (cA 0, 8, .inl ((V 4) 4))), ((A 3 1), .inr (8, [.int ((V 5) 0 0), .int ((V 5) 1 0), .int ((V 5) 2 0), .int ((V 5) 3 0), .ref ((A 5) 4), .ref ((A 5) 5), .ref ((A 5) 6)])), ((A 5) 4, .inl (cA 0, 8, .inl ((V 5) 4))), ((A 5) 5, .inl (cA 0, 8, .inl ((V 5) 5))), ((A 5) 6, .inl (cA 1, 8, .inr (.inr (.inl (fun j => ((V 5) 6 j).toUInt32))))), ((A 3 2), .inr (4, [.int ((V 6) 0 0), .ref ((A 6) 1), .ref ((A 6) 2), .ref ((A 6) 3), .ref ((A 6) 4)])), ((A 6) 1, .inl (cA 0, 40, .inl ((V 6) 1))), ((A 6) 2, .inl (cA 0, 40, .inl ((V 6) 2))), ((A 6) 3, .inl (cA 0, 40, .inl ((V 6) 3))), ((A 6) 4, .inl (cA 0, 320, .inl ((V 6) 4))), ((A 3 20), .inr (0, [.int ((V 7) 0 0), .int ((V 7) 1 0), .int ((V 7) 2 0), .int ((V 7) 3 0), .int ((V 7) 4 0), .int ((V 7) 5 0), .int ((V 7) 6 0), .ref ((A 7) 7), .ref ((A 7) 8), .ref ((A 7) 9)])), ((A 7) 7, .inl (cA 0, 30, .inl ((V 7) 7))), ((A 7) 8, .inl (cA 0, 30, .inl ((V 7) 8))), ((A 7) 9, .inl (cA 0, 30, .inl ((V 7) 9))), ((A 3 21), .inr (0, [.int ((V 8) 0 0), .int ((V 8) 1 0), .int ((V 8) 2 0), .int ((V 8) 3 0), .int ((V 8) 4 0), .int ((V 8) 5 0), .int ((V 8) 6 0), .ref ((A 8) 7), .ref ((A 8) 8), .ref ((A 8) 9)])), ((A 8) 7, .inl (cA 0, 30, .inl ((V 8) 7))), ((A 8) 8, .inl (cA 0, 30, .inl ((V 8) 8))), ((A 8) 9, .inl (cA 0, 30, .inl ((V 8) 9))), ((A 3 22), .inr (0, [.int ((V 9) 0 0), .int ((V 9) 1 0), .int ((V 9) 2 0), .int ((V 9) 3 0), .int ((V 9) 4 0), .int ((V 9) 5 0), .int ((V 9) 6 0), .ref ((A 9) 7), .ref ((A 9) 8), .ref ((A 9) 9)])), ((A 9) 7, .inl (cA 0, 30, .inl ((V 9) 7))), ((A 9) 8, .inl (cA 0, 30, .inl ((V 9) 8))), ((A 9) 9, .inl (cA 0, 30, .inl ((V 9) 9))), ((A 0 3), .inr (3, [.ref ((A 10) 0), .int ((V 10) 1 0), .int ((V 10) 2 0)])), ((A 0 5), .inr (2, [.ref ((A 11) 0), .int ((V 11) 1 0), .int ((V 11) 2 0)])), ((A 11) 0, .inl (cA 0, 60, .inl ((V 11) 0))), ((A 0 6), .inr (1, [.int ((V 12) 0 0), .ref ((A 12) 1), .ref ((A 12) 2), .ref ((A 12) 3)])), ((A 12) 1, .inl (cA 0, 9, .inl ((V 12) 1))), ((A 12) 2, .inl (cA 0, 9, .inl ((V 12) 2))), ((A 12) 3, .inl (cA 0, 9, .inl ((V 12) 3))), ((A 0 7), .inr (8, [.int ((V 13) 0 0), .int ((V 13) 1 0), .int ((V 13) 2 0), .int ((V 13) 3 0), .ref ((A 13) 4), .ref ((A 13) 5), .ref ((A 13) 6)])), ((A 13) 4, .inl (cA 0, 8, .inl ((V 13) 4))), ((A 13) 5, .inl (cA 0, 8, .inl ((V 13) 5))), ((A 13) 6, .inl (cA 1, 8, .inr (.inr (.inl (fun j => ((V 13) 6 j).toUInt32))))), ((A 0 8), .inr (5, [.int ((V 14) 0 0), .ref ((A 14) 1), .ref ((A 14) 2), .ref ((A 14) 3), .ref ((A 14) 4), .int ((V 14) 5 0), .int ((V 14) 6 0), .int ((V 14) 7 0), .int ((V 14) 8 0), .ref ((A 14) 9)])), ((A 14) 1, .inl (cA 0, 10496, .inl ((V 14) 1))), ((A 14) 2, .inl (cA 0, 256, .inl ((V 14) 2))), ((A 14) 3, .inl (cA 0, 256, .inl ((V 14) 3))), ((A 14) 4, .inl (cA 0, 256, .inl ((V 14) 4))), ((A 14) 9, .inl (cA 0, 40, .inl ((V 14) 9))), ((A 0 9), .inr (5, [.int ((V 15) 0 0), .ref ((A 15) 1), .ref ((A 15) 2), .ref ((A 15) 3), .ref ((A 15) 4), .int ((V 15) 5 0), .int ((V 15) 6 0), .int ((V 15) 7 0), .int ((V 15) 8 0), .ref ((A 15) 9)])), ((A 15) 1, .inl (cA 0, 512, .inl ((V 15) 1))), ((A 15) 2, .inl (cA 0, 256, .inl ((V 15) 2))), ((A 15) 3, .inl (cA 0, 256, .inl ((V 15) 3))), ((A 15) 4, .inl (cA 0, 256, .inl ((V 15) 4))), ((A 15) 9, .inl (cA 0, 40, .inl ((V 15) 9))), ((A 0 10), .inr (7, [.int ((V 16) 0 0), .ref ((A 16) 1), .ref ((A 16) 2), .ref ((A 16) 3), .int ((V 16) 4 0), .int ((V 16) 5 0), .int ((V 16) 6 0)])), ((A 16) 1, .inl (cA 0, 8, .inl ((V 16) 1))), ((A 16) 2, .inl (cA 0, 256, .inl ((V 16) 2))), ((A 16) 3, .inl (cA 0, 256, .inl ((V 16) 3))), ((A 0 11), .inr (7, [.int ((V 17) 0 0), .ref ((A 17) 1), .ref ((A 17) 2), .ref ((A 17) 3), .int ((V 17) 4 0), .int ((V 17) 5 0), .int ((V 17) 6 0)])), ((A 17) 1, .inl (cA 0, 8, .inl ((V 17) 1))), ((A 17) 2, .inl (cA 0, 256, .inl ((V 17) 2))), ((A 17) 3, .inl (cA 0, 256, .inl ((V 17) 3)))]
def vu (V : Nat → Ob) (i : Nat) (o : Ob) : Nat → Ob := fun j => bif Nat.beq j i then o else V j
theorem Met.mono {l : Launch} {y : MethodName} {ws : List Cond} {rm : Room} {Pc Pc' : Array Value → State → Prop} {Qc Qc' : Array Value → State → Outcome → State → Prop} {mc ms : Nat} {free free' : Addr → Prop} (h : Met l y ws rm Pc Qc mc ms free) (h1 : ∀ a U, Pc' a U → Pc a U) (h2 : ∀ a st o t, Pc' a st → Qc a st o t → Qc' a st o t) (h3 : ∀ q, free q → free' q) : Met l y ws rm Pc' Qc' mc ms free' := by
  intro p e ha hc hk s m args below hf happ hP hK
  obtain ⟨n, o, a1, a2, a3, a4, L, a5, a6⟩ := h p e ha hc hk s m args below hf happ (h1 _ _ hP) hK
  exact ⟨n, o, a1, a2, a3, h2 _ _ _ _ hP a4, L, a5, fun q hq => h3 _ (a6 q hq)⟩
theorem pm_of {X : va_W} (n : Nat) (isC isR : List Nat) (h : (List.range n).Perm (isC ++ isR)) (h1 : (List.range n).filterMap (fun i => X[i]?) = X) : X.Perm (isC.filterMap (fun i => X[i]?) ++ isR.filterMap (fun i => X[i]?)) := by
  have h2 := h.filterMap (fun i => X[i]?)
  rw [h1, List.filterMap_append] at h2
  exact h2
def CW (cA : Nat → ClassId) (h : Nat) (A : Nat → Nat → Nat) (V : Nat → Ob) (PK PI : PV) (w : va_W) : Prop := ∃ plK plI : va_W, w.Perm (wC cA h A V ++ (plK ++ plI)) ∧ Pool cA (A 10 0) 8 PK plK ∧ Pool cA (A 0 4) 2 PI plI
def MW (cA : Nat → ClassId) (h : Nat) (a : Nat → Nat) (M : Ob) (w : va_W) : Prop := w.Perm (w_X12_four cA h a M)
section FR
variable {l : Launch} {y : MethodName} {wsy : List Cond} {rm : Room} {D : va_G} {cA : Nat → ClassId} {g : Nat → Nat} {sz mc ms : Nat} {av : List Value} {rv : Int32} {w c0 rest : va_W} {W' : va_W → Prop}
theorem vA_sub {sz : Nat} (hw : w.Perm (c0 ++ rest)) : ∀ q, va_A c0 sz q → va_A w sz q := fun q h => by
  rcases h with ⟨k, e, h⟩ | h
  · obtain ⟨i, hi⟩ := List.getElem?_of_mem (hw.mem_iff.mpr (List.mem_append_left rest (List.mem_of_getElem? h)))
    exact Or.inl ⟨i, e, hi⟩
  · exact Or.inr h
theorem fr_pre {U : State} (hw : w.Perm (c0 ++ rest)) (h : PreN D cA g sz w U) : PreN D cA g sz c0 U := by
  obtain ⟨⟨h1, h2, h3, h4, h5⟩, h6⟩ := h
  have hP := vP_perm hw h2
  have hD := vD_perm hw h4
  exact ⟨⟨h1, fun k q hk => hP k q (by rw [List.getElem?_append_left (List.getElem?_eq_some_iff.mp hk).1]; exact hk), h3, ⟨fun i j x y hx hy => hD.1 i j x y (by rw [List.getElem?_append_left (List.getElem?_eq_some_iff.mp hx).1]; exact hx) (by rw [List.getElem?_append_left (List.getElem?_eq_some_iff.mp hy).1]; exact hy), fun _ _ _ => trivial⟩, h5.narrow (vA_sub hw)⟩, h6⟩
theorem fr_post {st t : State} {c1 : va_W} (hw : w.Perm (c0 ++ rest)) (h : PreN D cA g sz w st) (hP1 : va_P D vwCl c1 t.heap) (hD1 : va_D (va_A c0 sz) c1) (hF : va_F (va_A c0 sz) st t) : va_P D vwCl (c1 ++ rest) t.heap ∧ va_D (va_A w sz) (c1 ++ rest) ∧ va_F (va_A w sz) st t := by
  obtain ⟨⟨h1, h2, h3, h4, h5⟩, h6⟩ := h
  have hP := vP_perm hw h2
  have hD0 : va_D (va_A w sz) w := h4.self
  have hD := vD_perm hw hD0
  have right : ∀ (k : Nat) (z : Nat × va_E), rest[k]? = some z → (c0 ++ rest)[c0.length + k]? = some z := fun k z h => by
    rw [List.getElem?_append_right (by omega), Nat.add_sub_cancel_left]; exact h
  have hout : ∀ (k : Nat) (z : Nat × va_E), rest[k]? = some z → z.1 < st.heap.size ∧ ¬ va_A c0 sz z.1 := fun k z hz => by
    have hlt := (hP _ z (right k z hz)).lt
    refine ⟨hlt, fun ha => ?_⟩
    rcases ha with ⟨j, e, hj⟩ | ha
    · have hjl := (List.getElem?_eq_some_iff.mp hj).1
      have := hD.1 j (c0.length + k) (z.1, e) z (by rw [List.getElem?_append_left hjl]; exact hj) (right k z hz) rfl
      omega
    · omega
  refine ⟨hP1.app (fun k z hz => ?_), va_D.app (hD1.weaken (fun k q _ h => vA_sub hw q.1 h)) ⟨fun i j x y hx hy hxy => ?_, fun k z hz => hD.2 _ z (right k z hz)⟩ (fun i j x y hx hy hxy => ?_), hF.1, fun q h1 h2 => hF.2 q h1 (fun h => h2 (vA_sub hw q h))⟩
  · exact (hP _ z (right k z hz)).kept (hF.2 z.1 (hout k z hz).1 (hout k z hz).2)
  · have := hD.1 _ _ x y (right i x hx) (right j y hy) hxy
    omega
  · exact (hout j y hy).2 (by rw [← hxy]; exact hD1.2 i x hx)
theorem fr_i {c1 : va_W} (hw : w.Perm (c0 ++ rest)) (hW : W' (c1 ++ rest)) (hM : Met l y wsy rm (va_Pc av (PreW D cA g sz c0)) (va_Qi (fun (r : Int32) (_ : Unit) => r = rv) (PostW D cA sz c0 c1) (va_A c0 sz)) mc ms (va_A c0 sz)) : Met l y wsy rm (va_Pc av (PreN D cA g sz w)) (va_Qi (fun (r : Int32) (_ : va_W) => r = rv) (PostT D cA sz w [] W') (va_A w sz)) mc ms (va_A w sz) := by
  refine hM.mono (fun a U h => ⟨h.1, (fr_pre hw h.2).1⟩) (fun a st o t h hq => ?_) (vA_sub hw)
  obtain ⟨⟨r, u, e1, e2, hP1, hK1, hD1⟩, hF⟩ := hq
  obtain ⟨q1, q2, q3⟩ := fr_post hw h.2 hP1 hD1 hF
  exact ⟨⟨r, c1 ++ rest, e1, e2, hW, q1, hK1, q2⟩, q3⟩
theorem fr_p {wc wc' pl : va_W} {Pl : va_W → Prop} (hw : w.Perm ((wc ++ pl) ++ rest)) (hW : ∀ pl', Pl pl' → W' ((wc' ++ pl') ++ rest)) (hM : Met l y wsy rm (va_Pc av (PreN D cA g sz (wc ++ pl))) (va_Qi (fun (r : Int32) (_ : va_W) => r = rv) (PostT D cA sz (wc ++ pl) wc' Pl) (va_A (wc ++ pl) sz)) mc ms (va_A (wc ++ pl) sz)) : Met l y wsy rm (va_Pc av (PreN D cA g sz w)) (va_Qi (fun (r : Int32) (_ : va_W) => r = rv) (PostT D cA sz w [] W') (va_A w sz)) mc ms (va_A w sz) := by
  refine hM.mono (fun a U h => ⟨h.1, fr_pre hw h.2⟩) (fun a st o t h hq => ?_) (vA_sub hw)
  obtain ⟨⟨r, u, e1, e2, hPl, hP1, hK1, hD1⟩, hF⟩ := hq
  obtain ⟨q1, q2, q3⟩ := fr_post hw h.2 hP1 hD1 hF
  exact ⟨⟨r, (wc' ++ u) ++ rest, e1, e2, hW u hPl, q1, hK1, q2⟩, q3⟩
end FR
theorem cw_n {cA : Nat → ClassId} {h : Nat} {A : Nat → Nat → Nat} {V : Nat → Ob} {plK plI w : va_W} (isC isR : List Nat) (hp : (List.range 71).Perm (isC ++ isR)) (hw : w.Perm (wC cA h A V ++ (plK ++ plI))) : w.Perm (isC.filterMap (fun i => (wC cA h A V)[i]?) ++ (isR.filterMap (fun i => (wC cA h A V)[i]?) ++ (plK ++ plI))) := by
  have h2 := (pm_of (X := wC cA h A V) 71 isC isR hp rfl).append_right (plK ++ plI)
  rw [List.append_assoc] at h2
  exact hw.trans h2
theorem cw_b {cA : Nat → ClassId} {h : Nat} {A : Nat → Nat → Nat} {V : Nat → Ob} {plK plI c r : va_W} (isC isR : List Nat) (hp : (List.range 71).Perm (isC ++ isR)) (h1 : isC.filterMap (fun i => (wC cA h A V)[i]?) = c) (h2 : isR.filterMap (fun i => (wC cA h A V)[i]?) = r) : (c ++ (r ++ (plK ++ plI))).Perm (wC cA h A V ++ (plK ++ plI)) := by
  have h3 := (pm_of (X := wC cA h A V) 71 isC isR hp rfl).append_right (plK ++ plI)
  rw [List.append_assoc, h1, h2] at h3
  exact h3.symm
theorem cw_k {c r k i : va_W} : (c ++ (r ++ (k ++ i))).Perm ((c ++ k) ++ (r ++ i)) := by
  rw [List.append_assoc]
  refine List.Perm.append_left _ ?_
  rw [← List.append_assoc, ← List.append_assoc]
  exact List.perm_append_comm.append_right _
theorem cw_i {c r k i : va_W} : (c ++ (r ++ (k ++ i))).Perm ((c ++ i) ++ (r ++ k)) := by
  rw [List.append_assoc]
  refine List.Perm.append_left _ ?_
  rw [← List.append_assoc]
  exact List.perm_append_comm

