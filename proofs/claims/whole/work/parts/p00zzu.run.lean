/-! ===== names: the steps, as the model does them ===== -/
def AskP (σ : Nat → Nat) (k : Nat) (y : (Nat → Nat) × DL × Nat) : Prop := WF y.1 ∧ Grow σ y.1 ∧ y.1 7 = σ 7 + 1 ∧ y.2.2 ≤ 80
    ∧ (∀ (o w s l b0 b1 b2 d g : Ob) (x : PQ), CS o w s l b0 b1 b2 g σ x → Ok (f_X9_ask o w s l b0 b1 b2 d g (nI k)) (fun p => CS p.1 w p.2.1 p.2.2.1 p.2.2.2.1 p.2.2.2.2.1 p.2.2.2.2.2.1 p.2.2.2.2.2.2.2.1 y.1 (y.2.1.foldl pst x) ∧ p.2.2.2.2.2.2.2.2 = nI y.2.2))
    ∧ (∀ (M : Ob) (x : PQ), MS M σ x → Ok (f_X12_logs M (nI k)) (fun p => MS p.1 y.1 (y.2.1.foldl pst x) ∧ FrM M p.1 ∧ p.2 = nI y.2.2))
theorem ask_ex {σ : Nat → Nat} {k : Nat} (hw : WF σ) (h7 : σ 7 < 40) (hk : k < σ 2) : ∃ y, AskP σ k y := by
  obtain ⟨σ', D, v, h⟩ := ask_both hw h7 hk
  exact ⟨(σ', D, v), h⟩
abbrev SQ : Type := (Nat → Nat) × PQ × Nat
noncomputable def akY (σ : Nat → Nat) (k : Nat) : (Nat → Nat) × DL × Nat := Classical.epsilon (AskP σ k)
theorem ak_sp {σ : Nat → Nat} {k : Nat} (hw : WF σ) (h7 : σ 7 < 40) (hk : k < σ 2) : AskP σ k (akY σ k) := Classical.epsilon_spec (ask_ex hw h7 hk)
/-- one step: a REQUEST, unless the LOG is full -/
noncomputable def ask1 (s : SQ) (k : Nat) : SQ := if s.1 7 < 40 then ((akY s.1 k).1, (akY s.1 k).2.1.foldl pst s.2.1, s.2.2 + (akY s.1 k).2.2) else s
theorem ask1_y {s : SQ} {k : Nat} (h : s.1 7 < 40) : ask1 s k = ((akY s.1 k).1, (akY s.1 k).2.1.foldl pst s.2.1, s.2.2 + (akY s.1 k).2.2) := if_pos h
theorem ask1_n {s : SQ} {k : Nat} (h : ¬ s.1 7 < 40) : ask1 s k = s := if_neg h
theorem fold_full {s : SQ} (h : ¬ s.1 7 < 40) : ∀ L : List Nat, L.foldl ask1 s = s
  | [] => rfl
  | k :: L => by
    rw [List.foldl_cons, ask1_n h]
    exact fold_full h L
theorem ask1_inv {s : SQ} {k : Nat} (hw : WF s.1) (hk : k < s.1 2) : WF (ask1 s k).1 ∧ Grow s.1 (ask1 s k).1 ∧ (s.1 7 < 40 → (ask1 s k).1 7 = s.1 7 + 1) := by
  by_cases h : s.1 7 < 40
  · obtain ⟨a, b, c, -⟩ := ak_sp hw h hk
    rw [ask1_y h]
    exact ⟨a, b, fun _ => c⟩
  · rw [ask1_n h]
    exact ⟨hw, Grow_refl _, fun y => absurd y h⟩
theorem fold_inv : ∀ (L : List Nat) (s : SQ), WF s.1 → (∀ k, k ∈ L → k < s.1 2) → WF (L.foldl ask1 s).1 ∧ Grow s.1 (L.foldl ask1 s).1
  | [], s, hw, _ => ⟨hw, Grow_refl _⟩
  | k :: L, s, hw, hk => by
    obtain ⟨a, b, -⟩ := ask1_inv hw (hk k (List.mem_cons_self ..))
    have e2 : (ask1 s k).1 2 = s.1 2 := b.2.1 2 (by omega)
    obtain ⟨c, d⟩ := fold_inv L (ask1 s k) a (fun j hj => by rw [e2]; exact hk j (List.mem_cons_of_mem _ hj))
    rw [List.foldl_cons]
    exact ⟨c, Grow_trans b d⟩
/-- only so many steps count -/
theorem fold_take : ∀ (n : Nat) (L : List Nat) (s : SQ), WF s.1 → (∀ k, k ∈ L → k < s.1 2) → 40 ≤ n + s.1 7 → (L.take n).foldl ask1 s = L.foldl ask1 s
  | 0, L, s, hw, hk, h => by
    rw [List.take_zero, List.foldl_nil, fold_full (by omega)]
  | n + 1, [], s, hw, hk, h => rfl
  | n + 1, k :: L, s, hw, hk, h => by
    rw [List.take_succ_cons, List.foldl_cons, List.foldl_cons]
    by_cases q : s.1 7 < 40
    · obtain ⟨a, b, c⟩ := ask1_inv hw (hk k (List.mem_cons_self ..))
      have e2 : (ask1 s k).1 2 = s.1 2 := b.2.1 2 (by omega)
      have c := c q
      exact fold_take n L (ask1 s k) a (fun j hj => by rw [e2]; exact hk j (List.mem_cons_of_mem _ hj)) (by omega)
    · rw [ask1_n q, fold_full q, fold_full q]
/-- the model's loop over the steps -/
def nmB : Ob → Int32 → Int32 → Int32 → Option ((Ob × Int32 × Int32 × Int32) ⊕ (Ob × Int32)) := fun (o52 : Ob) (k53 : Int32) (k54 : Int32) (k55 : Int32) => (
  gi (7 : Int32) 835 <|
  if (40 : Int32) ≤ o52 0 (Int32.toNatClampNeg (7 : Int32)) then (
  some (.inr (o52, k54))
  ) else (
  nx (fun (_ : Unit) => (
  nx (fun (_ : Unit) => (
  gi k55 402 <|
  if o52 22 (Int32.toNatClampNeg k55) ≤ (99 : Int32) then (
  gi k55 402 <|
  zb2 (f_X12_logs o52 (o52 22 (Int32.toNatClampNeg k55))) fun (o79 : Ob) (r80 : Int32) =>
  nx (k54 + r80) fun x82 =>
  nx (k55 + (1 : Int32)) fun x83 =>
  some (.inl (o79, k53, x82, x83))
  ) else (
  gi k53 2 <|
  nx (sa o52 24 (upd (o52 24) (Int32.toNatClampNeg k53) k55)) fun o85 =>
  gi k55 402 <|
  gi k53 2 <|
  nx (sa o85 25 (upd (o85 25) (Int32.toNatClampNeg k53) ((o85 22 (Int32.toNatClampNeg k55)) - (100 : Int32)))) fun o88 =>
  nx (k53 + (1 : Int32)) fun x89 =>
  nx (k55 + (1 : Int32)) fun x90 =>
  some (.inl (o88, x89, k54, x90))
  )
  )) fun K76 =>
  if k53 ≤ 0 then (
  K76 ()
  ) else (
  gi (k53 - (1 : Int32)) 2 <|
  gi (o52 24 (Int32.toNatClampNeg (k53 - (1 : Int32)))) 402 <|
  if k55 = o52 23 (Int32.toNatClampNeg (o52 24 (Int32.toNatClampNeg (k53 - (1 : Int32))))) then (
  gi (k53 - (1 : Int32)) 2 <|
  gi (k53 - (1 : Int32)) 2 <|
  nx (sa o52 25 (upd (o52 25) (Int32.toNatClampNeg (k53 - (1 : Int32))) ((o52 25 (Int32.toNatClampNeg (k53 - (1 : Int32)))) - (1 : Int32)))) fun o96 =>
  gi (k53 - (1 : Int32)) 2 <|
  if o96 25 (Int32.toNatClampNeg (k53 - (1 : Int32))) ≤ 0 then (
  nx (k53 + (-1 : Int32)) fun x98 =>
  some (.inl (o96, x98, k54, k55))
  ) else (
  gi (k53 - (1 : Int32)) 2 <|
  nx ((o96 24 (Int32.toNatClampNeg (k53 - (1 : Int32)))) + (1 : Int32)) fun x100 =>
  some (.inl (o96, k53, k54, x100))
  )
  ) else (
  K76 ()
  )
  )
  )) fun K63 =>
  if k55 < o52 26 0 then (
  K63 ()
  ) else (
  if k53 ≤ 0 then (
  some (.inr (o52, k54))
  ) else (
  K63 ()
  )
  )
  ))
theorem nm_does (M : Ob) : f_X12_doesSteps M = zb2 (zl4 nmB FU M (nI 0) (nI 0) (nI 0)) (fun (o56 : Ob) (k57 : Int32) => some (o56, k57)) := rfl
/-- where the steps end that stand about -/
def EnP (M : Ob) (d j : Nat) : Prop := (∃ N, M 26 0 = nI N ∧ N ≤ 401 ∧ (d = 0 → j ≤ N)) ∧ d ≤ 2 ∧ (1 ≤ d → ∃ w z, M 24 (d - 1) = nI w ∧ w < 402 ∧ M 23 w = nI z ∧ j ≤ z ∧ z ≤ 401)
theorem EnP_le {M : Ob} {d i j : Nat} (h : EnP M d j) (hij : i ≤ j) : EnP M d i := by
  obtain ⟨⟨N, a, b, c⟩, e, f⟩ := h
  refine ⟨⟨N, a, b, fun z => Nat.le_trans hij (c z)⟩, e, fun z => ?_⟩
  obtain ⟨w, z, q1, q2, q3, q4, q5⟩ := f z
  exact ⟨w, z, q1, q2, q3, by omega, q5⟩
def FrR (M M' : Ob) : Prop := ∀ j, j ≠ 0 → j ≠ 19 → j ≠ 20 → j ≠ 21 → j ≠ 24 → j ≠ 25 → M' j = M j
theorem FrR_tr {M M1 M2 : Ob} (h : FrR M M1) (g : FrR M1 M2) : FrR M M2 := fun j a b c d e f => (g j a b c d e f).trans (h j a b c d e f)
theorem EnP_fr {M M' : Ob} {d j : Nat} (h : EnP M d j) (hf : FrR M M') (h24 : ∀ q, q < d → M' 24 q = M 24 q) : EnP M' d j := by
  obtain ⟨⟨N, a, b, c⟩, e, f⟩ := h
  refine ⟨⟨N, by rw [hf 26 (by decide) (by decide) (by decide) (by decide) (by decide) (by decide)]; exact a, b, c⟩, e, fun z => ?_⟩
  obtain ⟨w, z', q1, q2, q3, q4⟩ := f z
  exact ⟨w, z', by rw [h24 _ (by omega)]; exact q1, q2, by rw [hf 23 (by decide) (by decide) (by decide) (by decide) (by decide) (by decide)]; exact q3, q4⟩
/-- the model comes from one place to another -/
def Rch (C : Nat) (M : Ob) (d i : Nat) (s s' : SQ) (d1 j : Nat) : Prop := ∃ (c : Nat) (M' : Ob) (d' i' : Nat), c ≤ C ∧ (∀ F, zl4 nmB (F + c) M (nI d) (nI s.2.2) (nI i) = zl4 nmB F M' (nI d') (nI s'.2.2) (nI i')) ∧ MS M' s'.1 s'.2.1 ∧ FrR M M' ∧ (¬ s'.1 7 < 40 ∨ (d' = d1 ∧ i' = j ∧ ∀ q, q < d1 → M' 24 q = M 24 q ∧ M' 25 q = M 25 q))
theorem Rch_mono {C C' : Nat} {M : Ob} {d i : Nat} {s s' : SQ} {d1 j : Nat} (h : Rch C M d i s s' d1 j) (hc : C ≤ C') : Rch C' M d i s s' d1 j := by
  obtain ⟨c, M', d', i', a, b⟩ := h
  exact ⟨c, M', d', i', Nat.le_trans a hc, b⟩
/-- one part of the steps behind another -/
theorem Rch_tr {C C' : Nat} {M : Ob} {d i : Nat} {s s1 s2 : SQ} {d1 j d2 k : Nat} (h : Rch C M d i s s1 d1 j) (h12 : ¬ s1.1 7 < 40 → s2 = s1) (hd : d2 ≤ d1) (g : s1.1 7 < 40 → ∀ M1, MS M1 s1.1 s1.2.1 → FrR M M1 → (∀ q, q < d1 → M1 24 q = M 24 q ∧ M1 25 q = M 25 q) → Rch C' M1 d1 j s1 s2 d2 k) : Rch (C + C') M d i s s2 d2 k := by
  obtain ⟨c, M', d', i', a, b, e, f, l⟩ := h
  by_cases q : s1.1 7 < 40
  · rcases l with l | ⟨rfl, rfl, l⟩
    · exact absurd q l
    · obtain ⟨c2, M2, d3, i3, a2, b2, e2, f2, l2⟩ := g q M' e f l
      refine ⟨c2 + c, M2, d3, i3, by omega, fun F => ?_, e2, FrR_tr f f2, ?_⟩
      · rw [← Nat.add_assoc, b, b2]
      · rcases l2 with l2 | ⟨u, v, l2⟩
        · exact Or.inl l2
        · refine Or.inr ⟨u, v, fun q hq => ?_⟩
          rw [(l2 q hq).1, (l2 q hq).2]
          exact l q (by omega)
  · rw [h12 q]
    exact ⟨c, M', d', i', by omega, b, e, f, Or.inl q⟩
theorem Rch_one {M M' : Ob} {d i : Nat} {s s' : SQ} {d1 j : Nat} (h : nmB M (nI d) (nI s.2.2) (nI i) = some (.inl (M', nI d1, nI s'.2.2, nI j))) (hM : MS M' s'.1 s'.2.1) (hf : FrR M M') (hl : ∀ q, q < d1 → M' 24 q = M 24 q ∧ M' 25 q = M 25 q) : Rch 1 M d i s s' d1 j := ⟨1, M', d1, j, Nat.le_refl _, fun F => zl4_i h, hM, hf, Or.inr ⟨rfl, rfl, hl⟩⟩
theorem Rch_nil {M : Ob} {d i : Nat} {s : SQ} (hM : MS M s.1 s.2.1) : Rch 0 M d i s s d i := ⟨0, M, d, i, Nat.le_refl _, fun F => rfl, hM, fun _ _ _ _ _ _ _ => rfl, Or.inr ⟨rfl, rfl, fun _ _ => ⟨rfl, rfl⟩⟩⟩
