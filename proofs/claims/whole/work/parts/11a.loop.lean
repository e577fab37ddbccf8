section ZL
variable {p : Program} {l : Launch} {e : Env} {R : Room} {s : State} {m : MethodId} {args : Array Value} {below : List Frame} {meth : Method} {c : Code} {cc : ByteArray} {nL cells slots : Nat} {own : String} {Ts : List Cond} {D : va_G} {cA : Nat → ClassId} {g : Nat → Nat} {A : Nat → Prop} {Q : State → Prop} {ws : va_W} {lv : List (Nat × Value)} {pc : Nat} {st : List Value}
theorem z_sld (X : ZC p s m args meth c cc nL own Ts D cA g A) {b L : Nat} {xs : Nat → Int32} (hX : va_X b L xs s s.heap) (hbl : b < s.heap.size) (hbA : ¬ A b) {k : Nat} (hk : k < L) (hL : L < 2 ^ 31) (hdg : decode cc pc = .ok (.iaload, 1)) (kk : ZW p l e R s m args below meth c D A nL cells slots Q ws lv (pc + 1) (.int (xs k) :: st)) : ZW p l e R s m args below meth c D A nL cells slots Q ws lv pc (.int (nI k) :: .ref b :: st) := fun H locs ls hP hD hS hl => va_sld X.1 X.2.1 hX hbl hbA hS (vp_in_nI hk hL) hdg (by
  have h2 := kk H locs ls hP hD hS hl
  rw [nI_clamp (Nat.lt_trans hk hL)]
  exact h2)
theorem z_slen2 (X : ZC p s m args meth c cc nL own Ts D cA g A) {b L : Nat} {xs : Nat → Int32} (hX : va_X b L xs s s.heap) (hbl : b < s.heap.size) (hbA : ¬ A b) (hdg : decode cc pc = .ok (.arraylength, 1)) (kk : ZW p l e R s m args below meth c D A nL cells slots Q ws lv (pc + 1) (.int (nI L) :: st)) : ZW p l e R s m args below meth c D A nL cells slots Q ws lv pc (.ref b :: st) := fun H locs ls hP hD hS hl => va_slen X.1 X.2.1 hX hbl hbA hS hdg (kk H locs ls hP hD hS hl)
theorem z_LC {y : MethodName} {bytes : ByteArray} {maxL n index mc ms : Nat} {ret : Option FieldType} {wsy : List Cond} {rm : Room} {As rest st0 : List Value} {rv : Int32} {C : String} {b : Nat} {w1 w2 : va_W} {W1 : va_W → Prop} (X : ZC p s m args meth c cc nL own Ts D cA g A) (Y : ny s) (cw : CallW R s args own C index y bytes maxL ret wsy rm mc ms n) (hrecv : ∃ (k ci : Nat) (fs : List Value) (q : vw_C), w1[k]? = some (b, .inr (ci, fs)) ∧ vwCl[ci]? = some q ∧ q.1 = C) (hM : ∀ sz, Met l y wsy rm (va_Pc (.ref b :: As) (PreN D cA g sz w1)) (va_Qi (fun (r : Int32) (_ : va_W) => r = rv) (PostT D cA sz w1 [] W1) (va_A w1 sz)) mc ms (va_A w1 sz)) (hn : As.length = n) (hst : st0 = As.reverse ++ .ref b :: rest) (hroom : (rest.map fun v => v.category).sum ≤ 8) (hdg : decode cc pc = .ok (.invokevirtual index, 3)) (hf : cells + mc ≤ R.cells ∧ slots + ms ≤ R.slots) (kk : ∀ w1' : va_W, W1 w1' → ZW p l e R s m args below meth c D A nL (cells + mc) (slots + ms) Q (w1' ++ w2) lv (pc + 3) (.int rv :: rest)) : ZW p l e R s m args below meth c D A nL cells slots Q (w1 ++ w2) lv pc st0 := by
  intro H locs ls hP hD hS hl
  subst hst
  obtain ⟨k0, ci, fs, q, hr1, hr2, hr3⟩ := hrecv
  have left : ∀ (k : Nat) (z : Nat × va_E), w1[k]? = some z → (w1 ++ w2)[k]? = some z := fun k z h => by rw [List.getElem?_append_left (List.getElem?_eq_some_iff.mp h).1]; exact h
  have right : ∀ (k : Nat) (z : Nat × va_E), w2[k]? = some z → (w1 ++ w2)[w1.length + k]? = some z := fun k z h => by
    rw [List.getElem?_append_right (by omega), Nat.add_sub_cancel_left]; exact h
  have hPc : va_P D vwCl w1 H := fun k z h => hP k z (left k z h)
  have hDc : va_D A w1 := ⟨fun i j x y hx hy => hD.1 i j x y (left i x hx) (left j y hy), fun k z h => hD.2 k z (left k z h)⟩
  have hFc : ∀ z, va_A w1 H.size z → A z := fun z h => by
    rcases h with ⟨k, e2, h⟩ | h
    · exact hD.2 k _ (left k _ h)
    · exact X.2.2.2.2.2.2.1 z (Nat.le_trans hS.1 h)
  have hXc := (X.2.2.2.2.2.2.2.2.kept hS.2.1).narrow hFc
  refine va_calli (va_runV (As := As) (rest := rest) ⟨X.1, X.2.1, X.2.2.1, X.2.2.2.1, X.2.2.2.2.1⟩ (hM H.size) cw ⟨preN_blind, by rw [← hr3]; exact va_recv X.2.2.2.2.2.1 hPc hr2 hr1, fun U hU hW => ⟨rfl, ⟨by rw [hU], by rw [hU]; exact hPc, va_K.moved hW.alike X.2.2.2.2.2.1, hDc.weaken (fun _ _ _ _ => trivial), by rw [hU]; exact hXc.warm hW⟩, Y.warm hW⟩⟩ rfl hn hl.1 rfl (lv_room hroom) hdg hf) hS (fun z _ h => hFc z h) hFc (fun r u t H1 locs1 ht hvm hw hB hz1 hk1 hS1 => ?_)
  obtain ⟨hW1, hP1, -, hD1⟩ := hB
  rw [ht] at hP1
  have hP1 : va_P D vwCl u H1 := hP1
  have hD1 : va_D (va_A w1 H.size) u := hD1
  have hout : ∀ (k : Nat) (z : Nat × va_E), w2[k]? = some z → z.1 < H.size ∧ ¬ va_A w1 H.size z.1 := fun k z hz => by
    have hlt := (hP _ z (right k z hz)).lt
    refine ⟨hlt, fun ha => ?_⟩
    rcases ha with ⟨j, e2, hj⟩ | ha
    · have hjl := (List.getElem?_eq_some_iff.mp hj).1
      have := hD.1 j (w1.length + k) (z.1, e2) z (left j _ hj) (right k z hz) rfl
      omega
    · omega
  subst hw
  exact kk u hW1 H1 locs1 ls (hP1.app (fun k z hz => (hP _ z (right k z hz)).kept (hk1 z.1 (hout k z hz).1 (hout k z hz).2))) (va_D.app (hD1.weaken (fun k z _ h => hFc z.1 h)) ⟨fun i j x y hx hy hxy => by have := hD.1 _ _ x y (right i x hx) (right j y hy) hxy; omega, fun k z hz => hD.2 _ z (right k z hz)⟩ (fun i j x y hx hy hxy => (hout j y hy).2 (by rw [← hxy]; exact hD1.2 i x hx))) hS1 hl
end ZL
theorem cw_recv {cA : Nat → ClassId} {h : Nat} {A : Nat → Nat → Nat} {V : Nat → Ob} {PK PI : PV} {w : va_W} (hw : CW cA h A V PK PI w) : ∃ (k ci : Nat) (fs : List Value) (q : vw_C), w[k]? = some (h, .inr (ci, fs)) ∧ vwCl[ci]? = some q ∧ q.1 = RX11 := by
  obtain ⟨plK, plI, hp, -, -⟩ := hw
  obtain ⟨i, hi⟩ := List.getElem?_of_mem (hp.mem_iff.mpr (List.mem_append_left _ (List.mem_of_getElem? (l := wC cA h A V) (i := 0) rfl)))
  exact ⟨i, 11, _, _, hi, rfl, rfl⟩
theorem mw_recv {cA : Nat → ClassId} {h : Nat} {a : Nat → Nat} {M : Ob} {w : va_W} (hw : MW cA h a M w) : ∃ (k ci : Nat) (fs : List Value) (q : vw_C), w[k]? = some (h, .inr (ci, fs)) ∧ vwCl[ci]? = some q ∧ q.1 = RX12 := by
  obtain ⟨i, hi⟩ := List.getElem?_of_mem (List.Perm.mem_iff hw |>.mpr (List.mem_of_getElem? (l := w_X12_four cA h a M) (i := 0) rfl))
  exact ⟨i, 12, _, _, hi, rfl, rfl⟩

