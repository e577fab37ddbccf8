/-! THE CLAIM OUT OF ONE WALK OF THE LAW'S BODY. Your part is whole_start (and what it stands on); all else here is the same for every law, but numbers. -/
def R_law : String := "TwoTierStoreLaw"
def lw_P (b : Addr) (xs : List Int32) (args : Array Value) (s : State) : Prop := args = #[.ref b] ∧ s.IntsAt b xs ∧ xs.length ≤ 3072 ∧ (Jvm.Cond.and given_1 narrow_1).before args s = true
/-- what a walk over the start with the record d0 says of its end, said of the start itself -/
theorem lw_closed {s t : State} {o : Outcome} {d0 : Drawn} {L : List Loc} {k n : Nat} (hd0 : s.drawn.sameBut d0 lw_cs) (hv : ∃ v, o = .returned v) (hW : (s.setDrawn d0).WarmedH t.vm) (hs : (s.setDrawn d0).sameButNew ({ t with vm := s.vm } : State) L k n) : State.butDraws s t lw_cs (fun t1 => Framed s o t1 L k n) := by
  have h2 : t.drawn = d0 := congrArg State.drawn hs.1
  refine ⟨⟨hv, hW, State.sameButNew.setDrawn hs s.drawn⟩, ?_, by decide⟩
  rw [h2]
  exact hd0
def lw_Q (_ : Array Value) (s : State) (o : Outcome) (t : State) : Prop := o = .returned (some (.int 1)) ∧ State.butDraws s t lw_cs (fun t1 => Framed s o t1 [] 600000 7302250)
def lw_Z (below : List Frame) (a : Array Value) (s : State) : State → Prop := fun t => ∃ o, t.status = .running ∧ Ended t below o ∧ lw_Q a s o t
/-- the law's own end, with 1 on the stack, nothing written that was there before, its room as the claim has it; d0: the record of draws at this point (at the entry s.drawn: begin with 'refine W.base ?_' and 'have hd0 := Drawn.sameBut.refl s.drawn lw_cs') -/
theorem lw_ret {p : Program} {l : Launch} {e : Env} {s : State} {m : MethodId} {below : List Frame} {meth : Method} {c : Code} {b : Nat} {d0 : Drawn} (hd0 : s.drawn.sameBut d0 lw_cs) (hx : p.tables.exec = Jvm.exec) (hb : c.code = code) (hr : meth.sig.returnType = ret) (hlocks : meth.locks = false) {pc : Nat} {H : Heap} {ls : Array Slot} (hdg : decode code pc = .ok (.ireturn, 1)) : W p l e room_1 (s.setDrawn d0) m #[Value.ref b] below meth c H [] 600000 7302250 (lw_Z below #[Value.ref b] s) (F0 m pc ls [.int 1]) := by
  intro T hT X
  obtain ⟨fs, hret, hrun, hended, hW, hframe⟩ := X.leave (v := some (.int 1)) (hlocks := hlocks) (fun h => by rw [hr] at h; cases h)
  have hmeth' : T.vm.method? m = some meth := X.method'
  refine ⟨T.setFrames fs, ?_, .returned (some (.int 1)), hrun, hended, rfl, lw_closed hd0 ⟨_, rfl⟩ hW hframe⟩
  jvm_step X.here [X.here.top, hx, hb, hdg, hmeth', hr, ret, narrow_b1]
  (try refine ⟨rfl, ?_⟩); (try refine ⟨rfl, ?_⟩)
  first | (intro acts; rw [hret _ acts rfl rfl rfl]) | rw [hret _ _ rfl rfl rfl]
  exact Jvm.Steps.refl _
/-- what holds at the law's entry: the machine, the code, the tables' words (any of lw_tbl by 'hts w (by decide +kernel)'), the script of L ints xs at the cell b, what the Statement gives of the start (any of its parts by flat_of_before) -/
def lw_At (p : Program) (s : State) (m : MethodId) (meth : Method) (c : Code) (b L : Nat) (xs : Nat → Int32) : Prop :=
  p.tables.exec = Jvm.exec ∧ c.code = code ∧ meth.sig.returnType = ret ∧ c.maxLocals = 4 ∧ s.vm.findClass R_law = some m.cls ∧ (∀ w ∈ lw_tbl, w.before #[Value.ref b] s = true) ∧ va_X b L xs s s.heap ∧ b < s.heap.size ∧ meth.locks = false ∧ (Jvm.Cond.and given_1 narrow_1).before #[Value.ref b] s = true
set_option maxHeartbeats 4000000 in
set_option maxRecDepth 100000 in
theorem law_exit {p : Program} {l : Launch} {e : Env} {s : State} {m : MethodId} {below : List Frame} {meth : Method} {c : Code} {D : va_G} {cA : Nat → ClassId} {g : Nat → Nat} {b L : Nat} {xs : Nat → Int32} (X : ZC p s m #[Value.ref b] meth c code 4 RL wsL_law D cA g (fun q => s.heap.size ≤ q)) (Y : ny s) (hr : meth.sig.returnType = ret) (hX : va_X b L xs s s.heap) (hbl : b < s.heap.size) (hL : L ≤ 3072) {Rel : RelT} {hc hm : Nat} {AC : Nat → Nat → Nat} {am : Nat → Nat} (i : Nat) (hi : L < 6 * i + 6) (h6 : 6 * i ≤ L + 5) (w : va_W) : ZW p l e room_1 s m #[Value.ref b] below meth c D (fun q => s.heap.size ≤ q) 4 (95 + 28 * i) (38338 + 823 * i) (lw_Z below #[Value.ref b] s) w [(0, .ref b), (1, .ref hc), (2, .ref hm), (3, .int (nI (6 * i)))] 18 [] := by
  have hbA : ¬ (fun q : Nat => s.heap.size ≤ q) b := Nat.not_le.mpr hbl
  refine z_iload_n X dL_law_18 rfl 3 rfl ?_
  refine z_aload_n X dL_law_19 rfl 0 rfl ?_
  refine z_slen2 X hX hbl hbA dL_law_20 ?_
  refine z_bipush (v := (6 : Int32)) X dL_law_21 (by decide) ?_
  refine z_isub X dL_law_23 ?_
  refine z_icmp_gt (tgt := 1163) X dL_law_24 (by decide) (fun _ => ?_) (fun h => absurd (Int32.lt_iff_toInt_lt.mpr (by
    rw [show (6 : Int32) = nI 6 from rfl, pk_sub_toInt (by omega) (by omega), nI_toInt (by omega)]
    omega)) h)
  refine z_iconst (v := (1 : Int32)) X dL_law_1163 (by decide) ?_
  intro H locs ls hP hD hS hl
  refine va_forget (fun q hq => hS.2.2 q hq) ?_
  refine W.widen (k := 600000) (n := 7302250) (by omega) (by omega) ?_
  exact lw_ret (d0 := s.drawn) (Drawn.sameBut.refl s.drawn lw_cs) X.1 X.2.1 hr X.2.2.2.2.2.2.2.1 dL_law_1164
set_option maxHeartbeats 8000000 in
set_option maxRecDepth 100000 in
theorem law_loop {p : Program} {l : Launch} {e : Env} {s : State} {m : MethodId} {below : List Frame} {meth : Method} {c : Code} {D : va_G} {cA : Nat → ClassId} {g : Nat → Nat} {b L : Nat} {xs : Nat → Int32} (X : ZC p s m #[Value.ref b] meth c code 4 RL wsL_law D cA g (fun q => s.heap.size ≤ q)) (Y : ny s) (hr : meth.sig.returnType = ret) (hX : va_X b L xs s s.heap) (hbl : b < s.heap.size) (hL : L ≤ 3072) {Rel : RelT} {hc hm : Nat} {AC : Nat → Nat → Nat} {am : Nat → Nat} (ST : Steps Rel) : ∀ (n i : Nat), L < 6 * i + 6 * n → 6 * i ≤ L + 5 → ∀ (V : Nat → Ob) (PK PI : PV) (M : Ob) (w1 w2 : va_W), CW cA hc AC V PK PI w1 → MW cA hm am M w2 → Rel V PK PI M → ZW p l e room_1 s m #[Value.ref b] below meth c D (fun q => s.heap.size ≤ q) 4 (95 + 28 * i) (38338 + 823 * i) (lw_Z below #[Value.ref b] s) (w1 ++ w2) [(0, .ref b), (1, .ref hc), (2, .ref hm), (3, .int (nI (6 * i)))] 18 [] := by
  have hbA : ¬ (fun q : Nat => s.heap.size ≤ q) b := Nat.not_le.mpr hbl
  intro n
  induction n with
  | zero =>
    intro i h1 h2 V PK PI M w1 w2 _ _ _
    exact law_exit (Rel := Rel) (AC := AC) (am := am) X Y hr hX hbl hL i (by omega) h2 _
  | succ n ih =>
    intro i h1 h2 V PK PI M w1 w2 hw1 hw2 hR
    by_cases hi : 6 * i + 6 ≤ L
    · have KT : ∀ (V : Nat → Ob) (PK PI : PV) (M : Ob) (w1 w2 : va_W), CW cA hc AC V PK PI w1 → MW cA hm am M w2 → Rel V PK PI M → ZW p l e room_1 s m #[Value.ref b] below meth c D (fun q => s.heap.size ≤ q) 4 (95 + 28 * (i + 1)) (38338 + 823 * (i + 1)) (lw_Z below #[Value.ref b] s) (w1 ++ w2) [(0, .ref b), (1, .ref hc), (2, .ref hm), (3, .int (nI (6 * i)))] 1157 [] := by
        intro V PK PI M w1 w2 hw1 hw2 hR
        refine z_iinc (v := nI (6 * (i + 1))) (lv' := [(3, .int (nI (6 * (i + 1)))), (0, .ref b), (1, .ref hc), (2, .ref hm)]) (j := 3) X dL_law_1157 rfl (by
          rw [show Int32.ofInt 6 = nI 6 from rfl, nI_add]
          exact congrArg nI (by omega)) (by decide) rfl ?_
        refine z_goto (tgt := 18) X dL_law_1160 (by decide) ?_
        refine z_lv (lv' := [(0, .ref b), (1, .ref hc), (2, .ref hm), (3, .int (nI (6 * (i + 1))))]) [1, 2, 3, 0] rfl ?_
        exact ih (i + 1) (by omega) (by omega) V PK PI M w1 w2 hw1 hw2 hR
      refine z_iload_n X dL_law_18 rfl 3 rfl ?_
      refine z_aload_n X dL_law_19 rfl 0 rfl ?_
      refine z_slen2 X hX hbl hbA dL_law_20 ?_
      refine z_bipush (v := (6 : Int32)) X dL_law_21 (by decide) ?_
      refine z_isub X dL_law_23 ?_
      refine z_icmp_gt (tgt := 1163) X dL_law_24 (by decide) (fun h => absurd (Int32.lt_iff_toInt_lt.mp h) (by
        rw [show (6 : Int32) = nI 6 from rfl, pk_sub_toInt (by omega) (by omega), nI_toInt (by omega)]
        omega)) (fun _ => ?_)
      refine z_aload_n X dL_law_27 rfl 0 rfl ?_
      refine z_iload_n X dL_law_28 rfl 3 rfl ?_
      refine z_sld X hX hbl hbA (k := 6 * i) (by omega) (by omega) dL_law_29 ?_
      refine z_bipush (v := (63 : Int32)) X dL_law_30 (by decide) ?_
      refine z_iand X dL_law_32 ?_
      obtain ⟨j, hj, ej⟩ := pk_andE (xs (6 * i)) (m := 63) 6 (by decide)
      refine z_nm ej.symm ?_
      clear ej
      match j, hj with
      | 0, _ =>
        refine z_tableIn (off := 163) (tgt := 196) X dL_law_33 (by decide) (by decide) (by decide) (by decide) ?_
        exact lc_feed X Y hX hbl hbA hL i hi ST.1 V PK PI M w1 w2 hw1 hw2 hR KT
      | 1, _ =>
        refine z_tableIn (off := 226) (tgt := 259) X dL_law_33 (by decide) (by decide) (by decide) (by decide) ?_
        exact lc_end X Y hX hbl hbA hL i hi ST.2.1 V PK PI M w1 w2 hw1 hw2 hR KT
      | 2, _ =>
        refine z_tableIn (off := 249) (tgt := 282) X dL_law_33 (by decide) (by decide) (by decide) (by decide) ?_
        exact lc_store X Y hX hbl hbA hL i hi ST.2.2.1 V PK PI M w1 w2 hw1 hw2 hR KT
      | 3, _ =>
        refine z_tableIn (off := 262) (tgt := 295) X dL_law_33 (by decide) (by decide) (by decide) (by decide) ?_
        exact lc_fault X Y hX hbl hbA hL i hi ST.2.2.2.1 V PK PI M w1 w2 hw1 hw2 hR KT
      | 4, _ =>
        refine z_tableIn (off := 275) (tgt := 308) X dL_law_33 (by decide) (by decide) (by decide) (by decide) ?_
        exact lc_now X Y hX hbl hbA hL i hi ST.2.2.2.2.1 V PK PI M w1 w2 hw1 hw2 hR KT
      | 5, _ =>
        refine z_tableIn (off := 298) (tgt := 331) X dL_law_33 (by decide) (by decide) (by decide) (by decide) ?_
        exact lc_item X Y hX hbl hbA hL i hi ST.2.2.2.2.2.1 V PK PI M w1 w2 hw1 hw2 hR KT
      | 6, _ =>
        refine z_tableIn (off := 331) (tgt := 364) X dL_law_33 (by decide) (by decide) (by decide) (by decide) ?_
        exact lc_request X Y hX hbl hbA hL i hi ST.2.2.2.2.2.2.1 V PK PI M w1 w2 hw1 hw2 hR KT
      | 7, _ =>
        refine z_tableIn (off := 354) (tgt := 387) X dL_law_33 (by decide) (by decide) (by decide) (by decide) ?_
        exact lc_names X Y hX hbl hbA hL i hi ST.2.2.2.2.2.2.2.1 V PK PI M w1 w2 hw1 hw2 hR KT
      | 8, _ =>
        refine z_tableIn (off := 367) (tgt := 400) X dL_law_33 (by decide) (by decide) (by decide) (by decide) ?_
        exact lc_log X Y hX hbl hbA hL i hi ST.2.2.2.2.2.2.2.2.1 V PK PI M w1 w2 hw1 hw2 hR KT
      | 9, _ =>
        refine z_tableIn (off := 400) (tgt := 433) X dL_law_33 (by decide) (by decide) (by decide) (by decide) ?_
        exact lc_room X Y hX hbl hbA hL i hi ST.2.2.2.2.2.2.2.2.2.1 V PK PI M w1 w2 hw1 hw2 hR KT
      | 10, _ =>
        refine z_tableIn (off := 423) (tgt := 456) X dL_law_33 (by decide) (by decide) (by decide) (by decide) ?_
        exact lc_rule X Y hX hbl hbA hL i hi ST.2.2.2.2.2.2.2.2.2.2.1 V PK PI M w1 w2 hw1 hw2 hR KT
      | 11, _ =>
        refine z_tableIn (off := 446) (tgt := 479) X dL_law_33 (by decide) (by decide) (by decide) (by decide) ?_
        exact lc_carry X Y hX hbl hbA hL i hi ST.2.2.2.2.2.2.2.2.2.2.2.1 V PK PI M w1 w2 hw1 hw2 hR KT
      | 12, _ =>
        refine z_tableIn (off := 479) (tgt := 512) X dL_law_33 (by decide) (by decide) (by decide) (by decide) ?_
        exact lc_gate X Y hX hbl hbA hL i hi ST.2.2.2.2.2.2.2.2.2.2.2.2.1 V PK PI M w1 w2 hw1 hw2 hR KT
      | 13, _ =>
        refine z_tableIn (off := 502) (tgt := 535) X dL_law_33 (by decide) (by decide) (by decide) (by decide) ?_
        exact lc_book X Y hX hbl hbA hL i hi ST.2.2.2.2.2.2.2.2.2.2.2.2.2.1 V PK PI M w1 w2 hw1 hw2 hR KT
      | 14, _ =>
        refine z_tableIn (off := 545) (tgt := 578) X dL_law_33 (by decide) (by decide) (by decide) (by decide) ?_
        exact lc_booked X Y hX hbl hbA hL i hi ST.2.2.2.2.2.2.2.2.2.2.2.2.2.2.1 V PK PI M w1 w2 hw1 hw2 hR KT
      | 15, _ =>
        refine z_tableIn (off := 578) (tgt := 611) X dL_law_33 (by decide) (by decide) (by decide) (by decide) ?_
        exact lc_line X Y hX hbl hbA hL i hi ST.2.2.2.2.2.2.2.2.2.2.2.2.2.2.2.1 V PK PI M w1 w2 hw1 hw2 hR KT
      | 16, _ =>
        refine z_tableIn (off := 621) (tgt := 654) X dL_law_33 (by decide) (by decide) (by decide) (by decide) ?_
        exact lc_best X Y hX hbl hbA hL i hi ST.2.2.2.2.2.2.2.2.2.2.2.2.2.2.2.2.1 V PK PI M w1 w2 hw1 hw2 hR KT
      | 17, _ =>
        refine z_tableIn (off := 634) (tgt := 667) X dL_law_33 (by decide) (by decide) (by decide) (by decide) ?_
        exact lc_plan X Y hX hbl hbA hL i hi ST.2.2.2.2.2.2.2.2.2.2.2.2.2.2.2.2.2.1 V PK PI M w1 w2 hw1 hw2 hR KT
      | 18, _ =>
        refine z_tableIn (off := 667) (tgt := 700) X dL_law_33 (by decide) (by decide) (by decide) (by decide) ?_
        exact lc_potential X Y hX hbl hbA hL i hi ST.2.2.2.2.2.2.2.2.2.2.2.2.2.2.2.2.2.2.1 V PK PI M w1 w2 hw1 hw2 hR KT
      | 19, _ =>
        refine z_tableIn (off := 690) (tgt := 723) X dL_law_33 (by decide) (by decide) (by decide) (by decide) ?_
        exact lc_proof X Y hX hbl hbA hL i hi ST.2.2.2.2.2.2.2.2.2.2.2.2.2.2.2.2.2.2.2.1 V PK PI M w1 w2 hw1 hw2 hR KT
      | 20, _ =>
        refine z_tableIn (off := 713) (tgt := 746) X dL_law_33 (by decide) (by decide) (by decide) (by decide) ?_
        exact lc_bestWith X Y hX hbl hbA hL i hi ST.2.2.2.2.2.2.2.2.2.2.2.2.2.2.2.2.2.2.2.2.1 V PK PI M w1 w2 hw1 hw2 hR KT
      | 21, _ =>
        refine z_tableIn (off := 736) (tgt := 769) X dL_law_33 (by decide) (by decide) (by decide) (by decide) ?_
        exact lc_soon X Y hX hbl hbA hL i hi ST.2.2.2.2.2.2.2.2.2.2.2.2.2.2.2.2.2.2.2.2.2.1 V PK PI M w1 w2 hw1 hw2 hR KT
      | 22, _ =>
        refine z_tableIn (off := 759) (tgt := 792) X dL_law_33 (by decide) (by decide) (by decide) (by decide) ?_
        exact lc_victims X Y hX hbl hbA hL i hi ST.2.2.2.2.2.2.2.2.2.2.2.2.2.2.2.2.2.2.2.2.2.2.1 V PK PI M w1 w2 hw1 hw2 hR KT
      | 23, _ =>
        refine z_tableIn (off := 782) (tgt := 815) X dL_law_33 (by decide) (by decide) (by decide) (by decide) ?_
        exact lc_upTo X Y hX hbl hbA hL i hi ST.2.2.2.2.2.2.2.2.2.2.2.2.2.2.2.2.2.2.2.2.2.2.2.1 V PK PI M w1 w2 hw1 hw2 hR KT
      | 24, _ =>
        refine z_tableIn (off := 805) (tgt := 838) X dL_law_33 (by decide) (by decide) (by decide) (by decide) ?_
        exact lc_curve X Y hX hbl hbA hL i hi ST.2.2.2.2.2.2.2.2.2.2.2.2.2.2.2.2.2.2.2.2.2.2.2.2.1 V PK PI M w1 w2 hw1 hw2 hR KT
      | 25, _ =>
        refine z_tableIn (off := 838) (tgt := 871) X dL_law_33 (by decide) (by decide) (by decide) (by decide) ?_
        exact lc_spent X Y hX hbl hbA hL i hi ST.2.2.2.2.2.2.2.2.2.2.2.2.2.2.2.2.2.2.2.2.2.2.2.2.2.1 V PK PI M w1 w2 hw1 hw2 hR KT
      | 26, _ =>
        refine z_tableIn (off := 871) (tgt := 904) X dL_law_33 (by decide) (by decide) (by decide) (by decide) ?_
        exact lc_picture X Y hX hbl hbA hL i hi ST.2.2.2.2.2.2.2.2.2.2.2.2.2.2.2.2.2.2.2.2.2.2.2.2.2.2.1 V PK PI M w1 w2 hw1 hw2 hR KT
      | 27, _ =>
        refine z_tableIn (off := 884) (tgt := 917) X dL_law_33 (by decide) (by decide) (by decide) (by decide) ?_
        exact lc_byteAt X Y hX hbl hbA hL i hi ST.2.2.2.2.2.2.2.2.2.2.2.2.2.2.2.2.2.2.2.2.2.2.2.2.2.2.2.1 V PK PI M w1 w2 hw1 hw2 hR KT
      | 28, _ =>
        refine z_tableIn (off := 907) (tgt := 940) X dL_law_33 (by decide) (by decide) (by decide) (by decide) ?_
        exact lc_ratio X Y hX hbl hbA hL i hi ST.2.2.2.2.2.2.2.2.2.2.2.2.2.2.2.2.2.2.2.2.2.2.2.2.2.2.2.2.1 V PK PI M w1 w2 hw1 hw2 hR KT
      | 29, _ =>
        refine z_tableIn (off := 920) (tgt := 953) X dL_law_33 (by decide) (by decide) (by decide) (by decide) ?_
        exact lc_rides X Y hX hbl hbA hL i hi ST.2.2.2.2.2.2.2.2.2.2.2.2.2.2.2.2.2.2.2.2.2.2.2.2.2.2.2.2.2.1 V PK PI M w1 w2 hw1 hw2 hR KT
      | 30, _ =>
        refine z_tableIn (off := 953) (tgt := 986) X dL_law_33 (by decide) (by decide) (by decide) (by decide) ?_
        exact lc_ride X Y hX hbl hbA hL i hi ST.2.2.2.2.2.2.2.2.2.2.2.2.2.2.2.2.2.2.2.2.2.2.2.2.2.2.2.2.2.2.1 V PK PI M w1 w2 hw1 hw2 hR KT
      | 31, _ =>
        refine z_tableIn (off := 976) (tgt := 1009) X dL_law_33 (by decide) (by decide) (by decide) (by decide) ?_
        exact lc_shift X Y hX hbl hbA hL i hi ST.2.2.2.2.2.2.2.2.2.2.2.2.2.2.2.2.2.2.2.2.2.2.2.2.2.2.2.2.2.2.2.1 V PK PI M w1 w2 hw1 hw2 hR KT
      | 32, _ =>
        refine z_tableIn (off := 1009) (tgt := 1042) X dL_law_33 (by decide) (by decide) (by decide) (by decide) ?_
        exact lc_drawn X Y hX hbl hbA hL i hi ST.2.2.2.2.2.2.2.2.2.2.2.2.2.2.2.2.2.2.2.2.2.2.2.2.2.2.2.2.2.2.2.2.1 V PK PI M w1 w2 hw1 hw2 hR KT
      | 33, _ =>
        refine z_tableIn (off := 1042) (tgt := 1075) X dL_law_33 (by decide) (by decide) (by decide) (by decide) ?_
        exact lc_would X Y hX hbl hbA hL i hi ST.2.2.2.2.2.2.2.2.2.2.2.2.2.2.2.2.2.2.2.2.2.2.2.2.2.2.2.2.2.2.2.2.2.1 V PK PI M w1 w2 hw1 hw2 hR KT
      | 34, _ =>
        refine z_tableIn (off := 1065) (tgt := 1098) X dL_law_33 (by decide) (by decide) (by decide) (by decide) ?_
        exact lc_undo X Y hX hbl hbA hL i hi ST.2.2.2.2.2.2.2.2.2.2.2.2.2.2.2.2.2.2.2.2.2.2.2.2.2.2.2.2.2.2.2.2.2.2.1 V PK PI M w1 w2 hw1 hw2 hR KT
      | 35, _ =>
        refine z_tableIn (off := 1078) (tgt := 1111) X dL_law_33 (by decide) (by decide) (by decide) (by decide) ?_
        exact lc_image X Y hX hbl hbA hL i hi ST.2.2.2.2.2.2.2.2.2.2.2.2.2.2.2.2.2.2.2.2.2.2.2.2.2.2.2.2.2.2.2.2.2.2.2.1 V PK PI M w1 w2 hw1 hw2 hR KT
      | 36, _ =>
        refine z_tableIn (off := 1101) (tgt := 1134) X dL_law_33 (by decide) (by decide) (by decide) (by decide) ?_
        exact lc_restore X Y hX hbl hbA hL i hi ST.2.2.2.2.2.2.2.2.2.2.2.2.2.2.2.2.2.2.2.2.2.2.2.2.2.2.2.2.2.2.2.2.2.2.2.2 V PK PI M w1 w2 hw1 hw2 hR KT
      | (j + 37), hj =>
        refine z_tableOut (tgt := 1157) X dL_law_33 (Or.inr (by rw [nI_toInt (by omega)]; omega)) (by decide) ?_
        exact z_widen (by omega) (by omega) (KT V PK PI M w1 w2 hw1 hw2 hR)
    · exact law_exit (Rel := Rel) (AC := AC) (am := am) X Y hr hX hbl hL i (by omega) h2 _
