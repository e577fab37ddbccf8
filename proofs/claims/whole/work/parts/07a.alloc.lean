/-! what the tables say of nest mates and of arrays of objects, as facts of a state -/
def ny (U : State) : Prop := va_Nw (.methodLinkNest RX11 9 yX6_init "TwoTierStore") U ∧ va_Nw (.methodLinkNest RX11 18 yX10_init "TwoTierStore") U ∧ va_Nw (.methodLinkNest RX11 32 yX3_init "TwoTierStore") U ∧ va_Nw (.methodLinkNest RX11 43 yX2_init "TwoTierStore") U ∧ va_Nw (.methodLinkNest RX11 50 yX1_init "TwoTierStore") U ∧ va_Nw (.methodLinkNest RX11 57 yX8_init "TwoTierStore") U ∧ va_Nw (.methodLinkNest RX11 76 yX7_init "TwoTierStore") U ∧ va_Nw (.methodLinkNest RX9 11 yX10_init "TwoTierStore") U ∧ va_Nw (.methodLinkNest RX9 20 yX8_init "TwoTierStore") U ∧ va_Nw (.methodLinkNest RX9 27 yX4_init "TwoTierStore") U ∧ va_Nw (.methodLinkNest RX9 38 yX0_init "TwoTierStore") U ∧ va_AO RX0 U ∧ va_AO RX9 U
theorem ny.warm {s U : State} (hW : s.WarmedH U.vm) (h : ny s) : ny U := ⟨h.1.warmM hW, h.2.1.warmM hW, h.2.2.1.warmM hW, h.2.2.2.1.warmM hW, h.2.2.2.2.1.warmM hW, h.2.2.2.2.2.1.warmM hW, h.2.2.2.2.2.2.1.warmM hW, h.2.2.2.2.2.2.2.1.warmM hW, h.2.2.2.2.2.2.2.2.1.warmM hW, h.2.2.2.2.2.2.2.2.2.1.warmM hW, h.2.2.2.2.2.2.2.2.2.2.1.warmM hW, h.2.2.2.2.2.2.2.2.2.2.2.1.moved hW.alike, h.2.2.2.2.2.2.2.2.2.2.2.2.moved hW.alike⟩
theorem ny.same {u U : State} (hv : U.vm = u.vm) (h : ny u) : ny U := ⟨h.1.same rfl hv.symm, h.2.1.same rfl hv.symm, h.2.2.1.same rfl hv.symm, h.2.2.2.1.same rfl hv.symm, h.2.2.2.2.1.same rfl hv.symm, h.2.2.2.2.2.1.same rfl hv.symm, h.2.2.2.2.2.2.1.same rfl hv.symm, h.2.2.2.2.2.2.2.1.same rfl hv.symm, h.2.2.2.2.2.2.2.2.1.same rfl hv.symm, h.2.2.2.2.2.2.2.2.2.1.same rfl hv.symm, h.2.2.2.2.2.2.2.2.2.2.1.same rfl hv.symm, h.2.2.2.2.2.2.2.2.2.2.2.1.moved (by rw [hv]; exact Vm.Alike.refl u.vm), h.2.2.2.2.2.2.2.2.2.2.2.2.moved (by rw [hv]; exact Vm.Alike.refl u.vm)⟩
theorem vP_perm {D : va_G} {ws ws' : va_W} {H : Heap} (h : ws.Perm ws') (hP : va_P D vwCl ws H) : va_P D vwCl ws' H := fun k q hk => by
  obtain ⟨i, hi⟩ := List.getElem?_of_mem (h.mem_iff.mpr (List.mem_of_getElem? hk))
  exact hP i q hi
theorem vD_nodup {A : Nat → Prop} {ws : va_W} (h : va_D A ws) : (ws.map (fun q => q.1)).Nodup := by
  refine List.pairwise_iff_getElem.mpr (fun i j hi hj hij e => ?_)
  rw [List.length_map] at hi hj
  rw [List.getElem_map, List.getElem_map] at e
  have := h.1 i j ws[i] ws[j] (List.getElem?_eq_getElem hi) (List.getElem?_eq_getElem hj) e
  omega
theorem vD_of_nodup {A : Nat → Prop} {ws : va_W} (h : (ws.map (fun q => q.1)).Nodup) (hA : ∀ q ∈ ws, A q.1) : va_D A ws := by
  refine ⟨fun i j x y hx hy hxy => ?_, fun k q hk => hA q (List.mem_of_getElem? hk)⟩
  have h := List.pairwise_iff_getElem.mp h
  obtain ⟨hi, ex⟩ := List.getElem?_eq_some_iff.mp hx
  obtain ⟨hj, ey⟩ := List.getElem?_eq_some_iff.mp hy
  rcases Nat.lt_trichotomy i j with q | q | q
  · exact absurd (by rw [List.getElem_map, List.getElem_map, ex, ey]; exact hxy) (h i j (by rw [List.length_map]; exact hi) (by rw [List.length_map]; exact hj) q)
  · exact q
  · exact absurd (by rw [List.getElem_map, List.getElem_map, ex, ey]; exact hxy.symm) (h j i (by rw [List.length_map]; exact hj) (by rw [List.length_map]; exact hi) q)
theorem vD_perm {A : Nat → Prop} {ws ws' : va_W} (h : ws.Perm ws') (hD : va_D A ws) : va_D A ws' := vD_of_nodup ((h.map _).nodup_iff.mp (vD_nodup hD)) (fun q hq => by
  obtain ⟨i, hi⟩ := List.getElem?_of_mem (h.mem_iff.mpr hq)
  exact hD.2 i q hi)

def PreN (D : va_G) (cA : Nat → ClassId) (g : Nat → Nat) (sz : Nat) (ws : va_W) (U : State) : Prop := PreW D cA g sz ws U ∧ ny U
def PostN (D : va_G) (cA : Nat → ClassId) (sz : Nat) (ws : va_W) (wf : (Nat → Nat → Nat) → va_W) (u : Nat → Nat → Nat) (t : State) : Prop := va_P D vwCl (wf u) t.heap ∧ va_K D vwCl (tyL cA) t ∧ va_D (va_A ws sz) (wf u)
theorem preN_blind {D : va_G} {cA : Nat → ClassId} {g : Nat → Nat} {sz : Nat} {ws : va_W} {av : List Value} : FrameBlind (va_Pc av (PreN D cA g sz ws)) := fun a U gg mk q => by
  obtain ⟨q0, q1, q2⟩ := q
  exact ⟨(pre_blind (a := a) (U := U) gg mk ⟨q0, q1⟩).1, (pre_blind (a := a) (U := U) gg mk ⟨q0, q1⟩).2, q2.same (u := U) (U := U.calling gg mk a) rfl⟩
section ZA
variable {p : Program} {l : Launch} {e : Env} {R : Room} {s : State} {m : MethodId} {args : Array Value} {below : List Frame} {meth : Method} {c : Code} {cc : ByteArray} {nL cells slots : Nat} {own : String} {Ts : List Cond} {D : va_G} {cA : Nat → ClassId} {g : Nat → Nat} {A : Nat → Prop} {Q : State → Prop} {ws : va_W} {lv : List (Nat × Value)} {pc : Nat} {st : List Value}
theorem z_startN {y : MethodName} {wsy wsy' : List Cond} {rm : Room} {Qc : Nat → Array Value → State → Outcome → State → Prop} {free : Nat → Addr → Prop} {mc ms : Nat} {maxL : Nat} {ret : Option FieldType} {av : List Value} {w0 : va_W} {lv0 : List (Nat × Value)} {sz : Nat}
    (hy : plainName y.cls = true) (hw : wsy = Cond.code y cc maxL ret :: wsy') (hlv : lv_args 0 av = lv0) (hle : (lg_sl av).length ≤ maxL)
    (body : ∀ (p : Program) (e : Env) (R : Room) (s : State) (m : MethodId) (args : Array Value) (below : List Frame) (meth : Method) (c : Code) (A : Nat → Prop) (Q : State → Prop), R = rm → A = va_A w0 s.heap.size → Q = MQ below (Qc s.heap.size) args s mc ms (free s.heap.size) → ZC p s m args meth c cc maxL y.cls wsy D cA g A → ny s → meth.sig.returnType = ret → (y.name = "<init>" → meth.name = "<init>") → ZW p l e R s m args below meth c D A maxL 0 0 Q w0 lv0 0 []) :
    Met l y wsy rm (va_Pc av (PreN D cA g sz w0)) (Qc sz) mc ms (free sz) := by
  refine Met.ofW (cc := cc) (maxL := maxL) (ret := ret) hy hw ?_
  intro p e s m args below meth c s₁ B hml hv
  obtain ⟨rfl, ⟨hsz, hP, hK, hD0, hX⟩, hN⟩ := hv
  subst hsz
  have hl := lv_entry av (n := maxL) hle
  rw [hlv] at hl
  rw [lg_entry_eq]
  exact body p e _ s m _ below meth c _ _ rfl rfl rfl ⟨B.exec, B.bytes, hml, findClass_of_methodNamed B.named, atoms_spec (ws := wsy) B.pre, hK, fun q h => Or.inr h, B.notSynchronized, hX⟩ hN B.returns (fun h => by rw [← h]; exact (name_of_methodNamed B.named B.method).1) s.heap [] _ hP hD0.self va_S.rf hl
theorem z_obj (X : ZC p s m args meth c cc nL own Ts D cA g A) {idx a : Nat} (h1 : Cond.methodLink own idx Lib.objectInit ∈ Ts) (h2 : Cond.instanceMethod Lib.objectInit ∈ Ts) (h3 : Cond.code Lib.objectInit ⟨#[0xb1]⟩ 1 none ∈ Ts) (hfr : 1 ≤ R.frames) (hlo : (st.map fun v => v.category).sum + 12 ≤ R.locals) (hdg : decode cc pc = .ok (.invokespecial idx, 3)) (k : ZW p l e R s m args below meth c D A nL cells slots Q ws lv (pc + 3) st) : ZW p l e R s m args below meth c D A nL cells slots Q ws lv pc (.ref a :: st) := fun H locs ls hP hD hS hl => by
  refine W.objInit X.1 X.2.1 X.2.2.2.1 (X.2.2.2.2.1 _ h1) (X.2.2.2.2.1 _ h2) (X.2.2.2.2.1 _ h3) rfl (by rw [X.2.2.1]; exact hl.1) rfl hdg hfr (by show 2 * 0 + _ + 12 ≤ _; omega) ?_
  exact W.eq (g2 := F0 m (pc + 3) ls st) rfl (k H locs ls hP hD hS hl)

theorem z_newaI (X : ZC p s m args meth c cc nL own Ts D cA g A) {n : Int32} (N : Nat) (harr : Cond.arrayClass .int ∈ Ts) (hn : ¬ n < 0) (hN : n.toNatClampNeg = N) (hb : N * componentBytes .int ≤ 536870912) (hc : cells + 1 ≤ R.cells) (hs : slots + N ≤ R.slots) (hdg : decode cc pc = .ok (.newarray .int, 2)) (k : ∀ q : Nat, ZW p l e R s m args below meth c D A nL (cells + 1) (slots + N) Q (ws ++ [(q, .inl (cA 0, N, .inl (fun _ => 0)))]) lv (pc + 2) (.ref q :: st)) : ZW p l e R s m args below meth c D A nL cells slots Q ws lv pc (.int n :: st) := by
  intro H locs ls hP hD hS hl
  refine va_newa (atype := .int) (ty := .int) (a0 := (N, .inl (fun _ => 0))) X.1 X.2.1 (X.2.2.2.2.1 _ harr) rfl X.2.2.2.2.2.1 hP hD hS X.2.2.2.2.2.2.1 (fun _ => rfl) hn hN hb hc hs hdg (fun q c2 H1 hK1 hP1 hD1 hS1 => ?_)
  have e1 := (hK1.2 6 (c2, .int) rfl).2
  have e2 := (X.2.2.2.2.2.1.2 0 (cA 0, .int) rfl).2
  have e3 : c2 = cA 0 := Option.some.inj (Eq.trans (Eq.symm e1) e2)
  subst e3
  exact k q H1 locs ls hP1 hD1 hS1 hl
theorem z_newaF (X : ZC p s m args meth c cc nL own Ts D cA g A) {n : Int32} (N : Nat) (harr : Cond.arrayClass .float ∈ Ts) (hn : ¬ n < 0) (hN : n.toNatClampNeg = N) (hb : N * componentBytes .float ≤ 536870912) (hc : cells + 1 ≤ R.cells) (hs : slots + N ≤ R.slots) (hdg : decode cc pc = .ok (.newarray .float, 2)) (k : ∀ q : Nat, ZW p l e R s m args below meth c D A nL (cells + 1) (slots + N) Q (ws ++ [(q, .inl (cA 1, N, .inr (.inr (.inl (fun _ => 0)))))]) lv (pc + 2) (.ref q :: st)) : ZW p l e R s m args below meth c D A nL cells slots Q ws lv pc (.int n :: st) := by
  intro H locs ls hP hD hS hl
  refine va_newa (atype := .float) (ty := .float) (a0 := (N, .inr (.inr (.inl (fun _ => 0))))) X.1 X.2.1 (X.2.2.2.2.1 _ harr) rfl X.2.2.2.2.2.1 hP hD hS X.2.2.2.2.2.2.1 (fun _ => rfl) hn hN hb hc hs hdg (fun q c2 H1 hK1 hP1 hD1 hS1 => ?_)
  have e1 := (hK1.2 6 (c2, .float) rfl).2
  have e2 := (X.2.2.2.2.2.1.2 1 (cA 1, .float) rfl).2
  have e3 : c2 = cA 1 := Option.some.inj (Eq.trans (Eq.symm e1) e2)
  subst e3
  exact k q H1 locs ls hP1 hD1 hS1 hl
theorem z_newaB (X : ZC p s m args meth c cc nL own Ts D cA g A) {n : Int32} (N : Nat) (harr : Cond.arrayClass .byte ∈ Ts) (hn : ¬ n < 0) (hN : n.toNatClampNeg = N) (hb : N * componentBytes .byte ≤ 536870912) (hc : cells + 1 ≤ R.cells) (hs : slots + N ≤ R.slots) (hdg : decode cc pc = .ok (.newarray .byte, 2)) (k : ∀ q : Nat, ZW p l e R s m args below meth c D A nL (cells + 1) (slots + N) Q (ws ++ [(q, .inl (cA 2, N, .inl (fun _ => 0)))]) lv (pc + 2) (.ref q :: st)) : ZW p l e R s m args below meth c D A nL cells slots Q ws lv pc (.int n :: st) := by
  intro H locs ls hP hD hS hl
  refine va_newa (atype := .byte) (ty := .byte) (a0 := (N, .inl (fun _ => 0))) X.1 X.2.1 (X.2.2.2.2.1 _ harr) rfl X.2.2.2.2.2.1 hP hD hS X.2.2.2.2.2.2.1 (fun _ => rfl) hn hN hb hc hs hdg (fun q c2 H1 hK1 hP1 hD1 hS1 => ?_)
  have e1 := (hK1.2 6 (c2, .byte) rfl).2
  have e2 := (X.2.2.2.2.2.1.2 2 (cA 2, .byte) rfl).2
  have e3 : c2 = cA 2 := Option.some.inj (Eq.trans (Eq.symm e1) e2)
  subst e3
  exact k q H1 locs ls hP1 hD1 hS1 hl
theorem z_newaZ (X : ZC p s m args meth c cc nL own Ts D cA g A) {n : Int32} (N : Nat) (harr : Cond.arrayClass .boolean ∈ Ts) (hn : ¬ n < 0) (hN : n.toNatClampNeg = N) (hb : N * componentBytes .boolean ≤ 536870912) (hc : cells + 1 ≤ R.cells) (hs : slots + N ≤ R.slots) (hdg : decode cc pc = .ok (.newarray .boolean, 2)) (k : ∀ q : Nat, ZW p l e R s m args below meth c D A nL (cells + 1) (slots + N) Q (ws ++ [(q, .inl (cA 3, N, .inl (fun _ => 0)))]) lv (pc + 2) (.ref q :: st)) : ZW p l e R s m args below meth c D A nL cells slots Q ws lv pc (.int n :: st) := by
  intro H locs ls hP hD hS hl
  refine va_newa (atype := .boolean) (ty := .boolean) (a0 := (N, .inl (fun _ => 0))) X.1 X.2.1 (X.2.2.2.2.1 _ harr) rfl X.2.2.2.2.2.1 hP hD hS X.2.2.2.2.2.2.1 (fun _ => rfl) hn hN hb hc hs hdg (fun q c2 H1 hK1 hP1 hD1 hS1 => ?_)
  have e1 := (hK1.2 6 (c2, .boolean) rfl).2
  have e2 := (X.2.2.2.2.2.1.2 3 (cA 3, .boolean) rfl).2
  have e3 : c2 = cA 3 := Option.some.inj (Eq.trans (Eq.symm e1) e2)
  subst e3
  exact k q H1 locs ls hP1 hD1 hS1 hl
theorem z_newqBk (X : ZC p s m args meth c cc nL own Ts D cA g A) {n : Int32} {index : Nat} (N : Nat) (hl0 : Cond.classLink own index RX0 ∈ Ts) (ho : va_AO RX0 s) (hn : ¬ n < 0) (hN : n.toNatClampNeg = N) (hb : N * 4 ≤ 536870912) (hc : cells + 1 ≤ R.cells) (hs : slots + N ≤ R.slots) (hdg : decode cc pc = .ok (.anewarray index, 3)) (k : ∀ q : Nat, ZW p l e R s m args below meth c D A nL (cells + 1) (slots + N) Q (ws ++ [(q, .inl (cA 4, N, .inr (.inr (.inr (.inr (fun _ => none))))))]) lv (pc + 3) (.ref q :: st)) : ZW p l e R s m args below meth c D A nL cells slots Q ws lv pc (.int n :: st) := by
  intro H locs ls hP hD hS hl
  refine va_newq (C := RX0) X.1 X.2.1 X.2.2.2.1 (X.2.2.2.2.1 _ hl0) ho X.2.2.2.2.2.1 hP hD hS X.2.2.2.2.2.2.1 hn hN hb hc hs hdg (fun q c2 H1 hK1 hP1 hD1 hS1 => ?_)
  obtain ⟨_, _, _, _, _, e1⟩ := (hK1.2 6 (c2, .object RX0) rfl).2
  obtain ⟨_, _, _, _, _, e2⟩ := (X.2.2.2.2.2.1.2 4 (cA 4, .object RX0) rfl).2
  have e3 : c2 = cA 4 := Option.some.inj (Eq.trans (Eq.symm e1) e2)
  subst e3
  exact k q H1 locs ls hP1 hD1 hS1 hl
theorem z_newqSt (X : ZC p s m args meth c cc nL own Ts D cA g A) {n : Int32} {index : Nat} (N : Nat) (hl0 : Cond.classLink own index RX9 ∈ Ts) (ho : va_AO RX9 s) (hn : ¬ n < 0) (hN : n.toNatClampNeg = N) (hb : N * 4 ≤ 536870912) (hc : cells + 1 ≤ R.cells) (hs : slots + N ≤ R.slots) (hdg : decode cc pc = .ok (.anewarray index, 3)) (k : ∀ q : Nat, ZW p l e R s m args below meth c D A nL (cells + 1) (slots + N) Q (ws ++ [(q, .inl (cA 5, N, .inr (.inr (.inr (.inr (fun _ => none))))))]) lv (pc + 3) (.ref q :: st)) : ZW p l e R s m args below meth c D A nL cells slots Q ws lv pc (.int n :: st) := by
  intro H locs ls hP hD hS hl
  refine va_newq (C := RX9) X.1 X.2.1 X.2.2.2.1 (X.2.2.2.2.1 _ hl0) ho X.2.2.2.2.2.1 hP hD hS X.2.2.2.2.2.2.1 hn hN hb hc hs hdg (fun q c2 H1 hK1 hP1 hD1 hS1 => ?_)
  obtain ⟨_, _, _, _, _, e1⟩ := (hK1.2 6 (c2, .object RX9) rfl).2
  obtain ⟨_, _, _, _, _, e2⟩ := (X.2.2.2.2.2.1.2 5 (cA 5, .object RX9) rfl).2
  have e3 : c2 = cA 5 := Option.some.inj (Eq.trans (Eq.symm e1) e2)
  subst e3
  exact k q H1 locs ls hP1 hD1 hS1 hl
def ZO (Ts : List Cond) (own : String) (index ci : Nat) (C : String) (T : u_T) (N : Nat) : Prop := vwCl[ci]? = some (C, T, N) ∧ (∀ w ∈ u_ws C T N, w ∈ Ts) ∧ Cond.classLink own index C ∈ Ts ∧ Cond.instantiable C N ∈ Ts ∧ Cond.initialized C ∈ Ts
theorem z_new (X : ZC p s m args meth c cc nL own Ts D cA g A) {index ci N : Nat} {C : String} {T : u_T} (O : ZO Ts own index ci C T N) (ty : Nat → FieldType) (hty : ∀ k, k < N → parseFieldDescriptor (T k).2.2.1 = some (ty k)) (fs : List Value) (hfs : ∀ j, j < N → defaultValue (ty j) = vp_V fs j) (hc : cells + 1 ≤ R.cells) (hs : slots + N ≤ R.slots) (hdg : decode cc pc = .ok (.new index, 3)) (k : ∀ q : Nat, ZW p l e R s m args below meth c D A nL (cells + 1) (slots + N) Q (ws ++ [(q, .inr (ci, fs))]) lv (pc + 3) (.ref q :: st)) : ZW p l e R s m args below meth c D A nL cells slots Q ws lv pc st := fun H locs ls hP hD hS hl => va_new X.1 X.2.1 X.2.2.2.2.1 O.2.1 ty hty X.2.2.2.1 (X.2.2.2.2.1 _ O.2.2.1) (X.2.2.2.2.1 _ O.2.2.2.1) (X.2.2.2.2.1 _ O.2.2.2.2) X.2.2.2.2.2.1 hP hD hS X.2.2.2.2.2.2.1 O.1 hfs hc hs hdg (fun q H1 h1 h2 h3 => k q H1 locs ls h1 h2 h3 hl)
theorem z_putF (X : ZC p s m args meth c cc nL own Ts D cA g A) {index ci j N a : Nat} {C : String} {T : u_T} {fs : List Value} {v : Value} {ws' : va_W} (F : ZF Ts own index ci j C T N) (ty0 : Nat → FieldType) (hty : ∀ k, k < N → parseFieldDescriptor (T k).2.2.1 = some (ty0 k)) (hnm : ∀ a, a < N → ∀ b, b < N → a ≠ b → (T a).2.1 ≠ (T b).2.1) (hfin : (T j).2.2.2 = true) (hin2 : meth.name = "<init>") (hdecl : (T j).1 = own) (q0 : Nat) (he : ws[q0]? = some (a, .inr (ci, fs))) (hn : narrow (ty0 j) v = v) (hfit : fits (ty0 j) v = true) (hlen : j < fs.length) (hw : ws.set q0 (a, .inr (ci, fs.set j v)) = ws') (hdg : decode cc pc = .ok (.putfield index, 3)) (k : ZW p l e R s m args below meth c D A nL cells slots Q ws' lv (pc + 3) st) : ZW p l e R s m args below meth c D A nL cells slots Q ws lv pc (v :: .ref a :: st) := fun H locs ls hP hD hS hl => va_putF X.1 X.2.1 X.2.2.2.2.1 F.2.2.1 ty0 hty hnm X.2.2.2.1 X.2.2.2.2.2.1 hP hD hS q0 he F.1 j F.2.1 (X.2.2.2.2.1 _ F.2.2.2) (fun _ h => h) hfin hin2 hdecl (hty j F.2.1) hn hfit hlen hdg (fun H1 locs1 h1 h2 h3 => k H1 locs1 ls (hw ▸ h1) (hw ▸ h2) h3 hl)

theorem z_astBk (X : ZC p s m args meth c cc nL own Ts D cA g A) {a n v : Nat} {vs : List Value} {f : Nat → Option Nat} {i : Int32} {ws' : va_W} (q0 qk : Nat) (ha : ws[q0]? = some (a, .inl (cA 4, n, .inr (.inr (.inr (.inr f)))))) (hv : ws[qk]? = some (v, .inr (0, vs))) (hin : vp_in i n) (hw : ws.set q0 (a, .inl (cA 4, n, .inr (.inr (.inr (.inr (va_up f i.toNatClampNeg (some v))))))) = ws') (hdg : decode cc pc = .ok (.aastore, 1)) (k : ZW p l e R s m args below meth c D A nL cells slots Q ws' lv (pc + 1) st) : ZW p l e R s m args below meth c D A nL cells slots Q ws lv pc (.ref v :: .int i :: .ref a :: st) := fun H locs ls hP hD hS hl => va_astq (r := vwCl[0]) X.1 X.2.1 X.2.2.2.2.2.1 hP hD hS q0 4 qk 0 ha rfl hv rfl hin hdg (fun H1 locs1 h1 h2 h3 => k H1 locs1 ls (hw ▸ h1) (hw ▸ h2) h3 hl)
theorem z_astSt (X : ZC p s m args meth c cc nL own Ts D cA g A) {a n v : Nat} {vs : List Value} {f : Nat → Option Nat} {i : Int32} {ws' : va_W} (q0 qk : Nat) (ha : ws[q0]? = some (a, .inl (cA 5, n, .inr (.inr (.inr (.inr f)))))) (hv : ws[qk]? = some (v, .inr (9, vs))) (hin : vp_in i n) (hw : ws.set q0 (a, .inl (cA 5, n, .inr (.inr (.inr (.inr (va_up f i.toNatClampNeg (some v))))))) = ws') (hdg : decode cc pc = .ok (.aastore, 1)) (k : ZW p l e R s m args below meth c D A nL cells slots Q ws' lv (pc + 1) st) : ZW p l e R s m args below meth c D A nL cells slots Q ws lv pc (.ref v :: .int i :: .ref a :: st) := fun H locs ls hP hD hS hl => va_astq (r := vwCl[9]) X.1 X.2.1 X.2.2.2.2.2.1 hP hD hS q0 5 qk 9 ha rfl hv rfl hin hdg (fun H1 locs1 h1 h2 h3 => k H1 locs1 ls (hw ▸ h1) (hw ▸ h2) h3 hl)
theorem z_perm {ws' : va_W} (h : ws.Perm ws') (k : ZW p l e R s m args below meth c D A nL cells slots Q ws' lv pc st) : ZW p l e R s m args below meth c D A nL cells slots Q ws lv pc st := fun H locs ls hP hD hS hl => k H locs ls (vP_perm h hP) (vD_perm h hD) hS hl
theorem z_eqq {a n : Nat} {c2 : ClassId} {f f' : Nat → Option Nat} {ws' : va_W} (q0 : Nat) (ha : ws[q0]? = some (a, .inl (c2, n, .inr (.inr (.inr (.inr f)))))) (hf : ∀ j, j < n → f j = f' j) (hw : ws.set q0 (a, .inl (c2, n, .inr (.inr (.inr (.inr f'))))) = ws') (k : ZW p l e R s m args below meth c D A nL cells slots Q ws' lv pc st) : ZW p l e R s m args below meth c D A nL cells slots Q ws lv pc st := by
  intro H locs ls hP hD hS hl
  have h1 : H[a]? = some (arrV c2 n (fun j => va_rf (f j))) := hP q0 _ ha
  have h2 : arrV c2 n (fun j => va_rf (f j)) = arrV c2 n (fun j => va_rf (f' j)) := by
    unfold arrV
    congr 2
    funext j
    exact congrArg va_rf (hf j.val j.isLt)
  have h3 : H[a]? = some (arrV c2 n (fun j => va_rf (f' j))) := by rw [h1, h2]
  exact k H locs ls (hw ▸ hP.set hD ha h3 (fun _ _ => rfl)) (hw ▸ hD.set ha) hS hl
theorem z_growI {y : MethodName} {mc ms : Nat} {rest : List Value} {w0 : va_W} {cell : Nat × va_E} {wf : (Nat → Nat → Nat) → va_W} {a : Array Value} {H : Heap} {locs : List Loc} {ls : Array Slot} {st0 : List Value} (X : ZC p s m args meth c cc nL own Ts D cA g A) (hP : va_P D vwCl (w0 ++ [cell]) H) (hD : va_D A (w0 ++ [cell])) (hS : va_S A s.heap H locs) (hl : lv_has ls nL lv)
    (hrun : va_Run p l e R s m args below meth c H locs cells slots mc ms (F0 m pc ls st0) rest (va_Qv (fun (_ : Nat → Nat → Nat) => True) (PostN D cA H.size [cell] wf) (va_A [cell] H.size) a) (va_A [cell] H.size))
    (kk : ∀ u : Nat → Nat → Nat, ZW p l e R s m args below meth c D A nL (cells + mc) (slots + ms) Q (w0 ++ wf u) lv (pc + 3) rest) : W p l e R s m args below meth c H locs cells slots Q (F0 m pc ls st0) := by
  have hc : va_D A (w0 ++ [cell]) := hD
  have hlast : (w0 ++ [cell])[w0.length]? = some cell := by simp
  have hFc : ∀ q, va_A [cell] H.size q → A q := fun q h => by
    rcases h with ⟨k, e2, h⟩ | h
    · have hk : k < 1 := (List.getElem?_eq_some_iff.mp h).1
      rw [show k = 0 by omega] at h
      cases h
      exact hD.2 _ _ hlast
    · exact X.2.2.2.2.2.2.1 q (Nat.le_trans hS.1 h)
  refine va_callv hrun hS (fun q _ h => hFc q h) hFc (fun u t H1 locs1 ht hvm hw hB hz1 hk1 hS1 => ?_)
  obtain ⟨hP1, -, hD1⟩ := hB
  rw [ht] at hP1
  have apart : ∀ (k : Nat) (q : Nat × va_E), w0[k]? = some q → q.1 < H.size ∧ ¬ va_A [cell] H.size q.1 := by
    intro k q hk
    have hk2 : (w0 ++ [cell])[k]? = some q := by
      rw [List.getElem?_append_left (List.getElem?_eq_some_iff.mp hk).1]; exact hk
    have hlt := (hP k q hk2).lt
    refine ⟨hlt, fun h => ?_⟩
    rcases h with ⟨k2, e2, h⟩ | h
    · have hk3 : k2 < 1 := (List.getElem?_eq_some_iff.mp h).1
      rw [show k2 = 0 by omega] at h
      have he : cell = (q.1, e2) := Option.some.inj h
      have := hD.1 k w0.length q cell hk2 hlast (by rw [he])
      have hkl := (List.getElem?_eq_some_iff.mp hk).1
      omega
    · omega
  refine kk u H1 locs1 ls (va_P.app (fun k q hk => ?_) hP1) (va_D.app ⟨fun i j x y hx hy hxy => ?_, fun k q hk => ?_⟩ (hD1.weaken (fun k q _ h => hFc q.1 h)) (fun i j x y hx hy hxy => ?_)) hS1 hl
  · obtain ⟨h1, h2⟩ := apart k q hk
    have hk2 : (w0 ++ [cell])[k]? = some q := by
      rw [List.getElem?_append_left (List.getElem?_eq_some_iff.mp hk).1]; exact hk
    exact (hP k q hk2).kept (hk1 q.1 h1 h2)
  · exact hD.1 i j x y (by rw [List.getElem?_append_left (List.getElem?_eq_some_iff.mp hx).1]; exact hx) (by rw [List.getElem?_append_left (List.getElem?_eq_some_iff.mp hy).1]; exact hy) hxy
  · exact hD.2 k q (by rw [List.getElem?_append_left (List.getElem?_eq_some_iff.mp hk).1]; exact hk)
  · exact (apart i x hx).2 (by rw [hxy]; exact hD1.2 j y hy)
theorem z_cell {w0 : va_W} {cell : Nat × va_E} {H : Heap} {locs : List Loc} (X : ZC p s m args meth c cc nL own Ts D cA g A) (hP : va_P D vwCl (w0 ++ [cell]) H) (hD : va_D A (w0 ++ [cell])) (hS : va_S A s.heap H locs) (Y : ny s) (U : State) (hU : U.heap = H) (hW : s.WarmedH U.vm) : PreN D cA g H.size [cell] U := by
  have hlast : (w0 ++ [cell])[w0.length]? = some cell := by simp
  have one : ∀ (k : Nat) (q : Nat × va_E), [cell][k]? = some q → k = 0 ∧ q = cell := fun k q h => by
    have hk : k < 1 := (List.getElem?_eq_some_iff.mp h).1
    have hk0 : k = 0 := by omega
    subst hk0
    exact ⟨rfl, (Option.some.inj h).symm⟩
  have hFc : ∀ q, va_A [cell] H.size q → A q := fun q h => by
    rcases h with ⟨k, e2, h⟩ | h
    · obtain ⟨-, h2⟩ := one k _ h
      have := hD.2 _ _ hlast
      rw [← h2] at this
      exact this
    · exact X.2.2.2.2.2.2.1 q (Nat.le_trans hS.1 h)
  refine ⟨⟨by rw [hU], fun k q h => ?_, va_K.moved hW.alike X.2.2.2.2.2.1, ⟨fun i j x y hx hy _ => ?_, fun _ _ _ => trivial⟩, ?_⟩, Y.warm hW⟩
  · obtain ⟨-, h2⟩ := one k q h
    rw [hU, h2]
    exact hP _ _ hlast
  · rw [(one i x hx).1, (one j y hy).1]
  · rw [hU]
    exact ((X.2.2.2.2.2.2.2.2.kept hS.2.1).narrow hFc).warm hW
theorem z_IN {y : MethodName} {bytes : ByteArray} {maxL n index mc ms : Nat} {host : String} {wsy : List Cond} {rm : Room} {As rest st0 : List Value} {b : Nat} {E : va_E} {wf : (Nat → Nat → Nat) → va_W} {w0 : va_W} (X : ZC p s m args meth c cc nL own Ts D cA g A) (Y : ny s) (cw : va_CN R s args own index y host bytes maxL none wsy rm mc ms n ∧ y.name = "<init>" ∧ (Cond.instanceMethod y).before args s = true)
    (hM : ∀ sz, Met l y wsy rm (va_Pc (.ref b :: As) (PreN D cA g sz [(b, E)])) (va_Qv (fun (_ : Nat → Nat → Nat) => True) (PostN D cA sz [(b, E)] wf) (va_A [(b, E)] sz)) mc ms (va_A [(b, E)] sz)) (hws : ws = w0 ++ [(b, E)]) (hn : As.length = n) (hst : st0 = As.reverse ++ .ref b :: rest) (hroom : (rest.map fun v => v.category).sum ≤ 8) (hdg : decode cc pc = .ok (.invokespecial index, 3)) (hf : cells + mc ≤ R.cells ∧ slots + ms ≤ R.slots)
    (kk : ∀ u : Nat → Nat → Nat, ZW p l e R s m args below meth c D A nL (cells + mc) (slots + ms) Q (w0 ++ wf u) lv (pc + 3) rest) : ZW p l e R s m args below meth c D A nL cells slots Q ws lv pc st0 := by
  intro H locs ls hP hD hS hl
  subst hst
  subst hws
  exact z_growI (y := y) X hP hD hS hl (va_runIN (As := As) (rest := rest) ⟨X.1, X.2.1, X.2.2.1, X.2.2.2.1, X.2.2.2.2.1⟩ (hM H.size) cw ⟨preN_blind, fun U hU hW => ⟨rfl, z_cell X hP hD hS Y U hU hW⟩⟩ rfl hn hl.1 rfl (lv_room hroom) hdg hf) kk
theorem z_I {y : MethodName} {bytes : ByteArray} {maxL n index mc ms : Nat} {wsy : List Cond} {rm : Room} {As rest st0 : List Value} {b : Nat} {E : va_E} {wf : (Nat → Nat → Nat) → va_W} {w0 : va_W} (X : ZC p s m args meth c cc nL own Ts D cA g A) (Y : ny s) (cw : CallB R s args own index y bytes maxL none wsy rm mc ms n ∧ y.name = "<init>" ∧ (Cond.instanceMethod y).before args s = true)
    (hM : ∀ sz, Met l y wsy rm (va_Pc (.ref b :: As) (PreN D cA g sz [(b, E)])) (va_Qv (fun (_ : Nat → Nat → Nat) => True) (PostN D cA sz [(b, E)] wf) (va_A [(b, E)] sz)) mc ms (va_A [(b, E)] sz)) (hws : ws = w0 ++ [(b, E)]) (hn : As.length = n) (hst : st0 = As.reverse ++ .ref b :: rest) (hroom : (rest.map fun v => v.category).sum ≤ 8) (hdg : decode cc pc = .ok (.invokespecial index, 3)) (hf : cells + mc ≤ R.cells ∧ slots + ms ≤ R.slots)
    (kk : ∀ u : Nat → Nat → Nat, ZW p l e R s m args below meth c D A nL (cells + mc) (slots + ms) Q (w0 ++ wf u) lv (pc + 3) rest) : ZW p l e R s m args below meth c D A nL cells slots Q ws lv pc st0 := by
  intro H locs ls hP hD hS hl
  subst hst
  subst hws
  exact z_growI (y := y) X hP hD hS hl (va_runI (As := As) (rest := rest) ⟨X.1, X.2.1, X.2.2.1, X.2.2.2.1, X.2.2.2.2.1⟩ (hM H.size) cw ⟨preN_blind, fun U hU hW => ⟨rfl, z_cell X hP hD hS Y U hU hW⟩⟩ rfl hn hl.1 rfl (lv_room hroom) hdg hf) kk
theorem z_vretN {w0 : va_W} {mc ms : Nat} {wf : (Nat → Nat → Nat) → va_W} (X : ZC p s m args meth c cc nL own Ts D cA g A) (hA : A = va_A w0 s.heap.size) (hQ : Q = MQ below (va_Qv (fun (_ : Nat → Nat → Nat) => True) (PostN D cA s.heap.size w0 wf) (va_A w0 s.heap.size)) args s mc ms (va_A w0 s.heap.size)) (hr : meth.sig.returnType = none) (u : Nat → Nat → Nat) (is : List Nat) (hn : va_nd is = true) (hu : is.map (fun i => ws[i]?) = (wf u).map some) (hdg : decode cc pc = .ok (.return_, 1)) (hc : cells ≤ mc) (hs : slots ≤ ms) : ZW p l e R s m args below meth c D A nL cells slots Q ws lv pc [] := by
  subst hA
  subst hQ
  exact fun H locs ls hP hD hS hl => W.widen hc hs (W.vret X.1 X.2.1 hr (fun t ht hW => ⟨⟨u, rfl, trivial, by rw [ht]; exact z_P hP is hu, va_K.moved hW.alike X.2.2.2.2.2.1, hD.sub is hn hu⟩, hS.F ht⟩) hS.2.2 hdg (hlocks := X.2.2.2.2.2.2.2.1))
end ZA
