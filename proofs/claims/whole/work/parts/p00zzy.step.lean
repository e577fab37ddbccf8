/-! ===== names: a step, read by both ===== -/
def nsA (o103 : Ob) : Option (Ob ⊕ (Ob ⊕ (Ob × Int32))) :=
  zb1 (f_X12_isKnown o103 (3 : Int32)) fun (r130 : Int32) =>
  if r130 = 0 then (
  zb1 (f_X12_isName o103) fun (r132 : Int32) =>
  if r132 = 0 then (
  zb2 (f_X12_badHere o103 (1 : Int32)) fun (o155 : Ob) (r156 : Int32) =>
  gz r156 <|
  some (.inr (.inr (o155, r156)))
  ) else (
  zb1 (f_X12_named__s o103) fun (r134 : Int32) =>
  if 0 ≤ r134 then (
  gi (o103 26 0) 402 <|
  nx (sa o103 22 (upd (o103 22) (Int32.toNatClampNeg (o103 26 0)) r134)) fun o137 =>
  nx (si o137 26 ((o137 26 0) + (1 : Int32))) fun o138 =>
  zb1 (f_X12_next o138) fun (o139 : Ob) =>
  zb1 (f_X12_isSign o139 (59 : Int32)) fun (r141 : Int32) =>
  if r141 = 0 then (
  zb2 (f_X12_badHere o139 (1 : Int32)) fun (o145 : Ob) (r146 : Int32) =>
  gz r146 <|
  some (.inr (.inr (o145, r146)))
  ) else (
  zb1 (f_X12_next o139) fun (o143 : Ob) =>
  some (.inl o143)
  )
  ) else (
  zb2 (f_X12_badHere o103 (3 : Int32)) fun (o150 : Ob) (r151 : Int32) =>
  gz r151 <|
  some (.inr (.inr (o150, r151)))
  )
  )
  ) else (
  if o103 27 0 = (2 : Int32) then (
  zb2 (f_X12_badHere o103 (5 : Int32)) fun (o183 : Ob) (r184 : Int32) =>
  gz r184 <|
  some (.inr (.inr (o183, r184)))
  ) else (
  gi (o103 27 0) 2 <|
  nx (sa o103 24 (upd (o103 24) (Int32.toNatClampNeg (o103 27 0)) (o103 26 0))) fun o161 =>
  nx (si o161 27 ((o161 27 0) + (1 : Int32))) fun o162 =>
  zb1 (f_X12_next o162) fun (o163 : Ob) =>
  zb2 (f_X12_number o163 (1 : Int32) (9 : Int32)) fun (o165 : Ob) (r166 : Int32) =>
  if r166 = 0 then (
  some (.inr (.inr (o165, (0 : Int32))))
  ) else (
  gi (o165 26 0) 402 <|
  nx (sa o165 22 (upd (o165 22) (Int32.toNatClampNeg (o165 26 0)) ((100 : Int32) + (o165 12 0)))) fun o169 =>
  nx (si o169 26 ((o169 26 0) + (1 : Int32))) fun o170 =>
  zb1 (f_X12_next o170) fun (o171 : Ob) =>
  zb1 (f_X12_isSign o171 (91 : Int32)) fun (r173 : Int32) =>
  if r173 = 0 then (
  zb2 (f_X12_badHere o171 (1 : Int32)) fun (o177 : Ob) (r178 : Int32) =>
  gz r178 <|
  some (.inr (.inr (o177, r178)))
  ) else (
  zb1 (f_X12_next o171) fun (o175 : Ob) =>
  some (.inl o175)
  )
  )
  )
  )
def nsC (o103 : Ob) : Option (Ob ⊕ (Ob ⊕ (Ob × Int32))) :=
  zb1 (f_X12_next o103) fun (o191 : Ob) =>
  nx (si o191 27 ((o191 27 0) - (1 : Int32))) fun o193 =>
  gi (o193 27 0) 2 <|
  gi (o193 24 (Int32.toNatClampNeg (o193 27 0))) 402 <|
  nx (sa o193 23 (upd (o193 23) (Int32.toNatClampNeg (o193 24 (Int32.toNatClampNeg (o193 27 0)))) (o193 26 0))) fun o196 =>
  zb1 (f_X12_isSign o196 (59 : Int32)) fun (r197 : Int32) =>
  if r197 = 0 then (
  zb2 (f_X12_badHere o196 (1 : Int32)) fun (o201 : Ob) (r202 : Int32) =>
  gz r202 <|
  some (.inr (.inr (o201, r202)))
  ) else (
  zb1 (f_X12_next o196) fun (o199 : Ob) =>
  some (.inl o199)
  )
def nsB (o103 : Ob) : Option (Ob ⊕ (Ob ⊕ (Ob × Int32))) :=
  if o103 27 0 ≤ 0 then (
  nsA o103
  ) else (
  zb1 (f_X12_isSign o103 (93 : Int32)) fun (r189 : Int32) =>
  if r189 = 0 then (
  nsA o103
  ) else (
  nsC o103
  )
  )
def nsM : Ob → Option (Ob ⊕ (Ob ⊕ (Ob × Int32))) := fun (o103 : Ob) =>
  if o103 11 0 = 0 then (
  if o103 27 0 ≤ 0 then (
  some (.inr (.inl o103))
  ) else (
  nsB o103
  )
  ) else (
  nsB o103
  )
theorem ns_e (M : Ob) : f_X12_readsSteps M = zb2 (f_X12_takes M) (fun (o1 : Ob) (r2 : Int32) => if r2 = 0 then some (o1, (0 : Int32)) else ze1 (zl1 nsM FU (si (si o1 26 (0 : Int32)) 27 (0 : Int32))) (fun r => some r) (fun (o104 : Ob) => some (o104, (1 : Int32)))) := rfl
/-- what reading the steps leaves alone -/
def FrZ (M M' : Ob) : Prop := ∀ j, (j < 9 ∨ 27 < j ∨ (17 ≤ j ∧ j < 22)) → M' j = M j
theorem FrZ_tr {M M' M2 : Ob} (h : FrZ M M') (g : FrZ M' M2) : FrZ M M2 := fun j a => (g j a).trans (h j a)
theorem FrN_Z {M M' : Ob} (h : FrN M M') : FrZ M M' := fun j a => h j (by omega) (by omega) (by omega) (by omega) (by omega) (by omega)
def SFt (M o' M' : Ob) : Prop := ∃ f a, 1 ≤ f ∧ f ≤ 5 ∧ a ≤ 400 ∧ o' 2 0 = nI f ∧ o' 3 0 = nI a ∧ M' 13 0 = nI f ∧ M' 14 0 = nI a ∧ FrZ M M'
theorem sft {o M M0 : Ob} {t : Nat → Nat} {n a x k f : Nat} (h : TS o M t n a x k) (hf : 1 ≤ f ∧ f ≤ 5) (hM : FrZ M0 M) : SFt M0 (FtC o f) (FtM M f) := by
  have e1 := h.2.2.2.1.1
  have e2 := h.2.2.2.2.1.1
  have h3 := h.2.2.1
  have h4 := h.1.2.1
  refine ⟨f, a, hf.1, hf.2, by omega, ?_, ?_, ?_, ?_, fun j hj => ?_⟩
  · unfold FtC; simp (disch := omega) only [si_eq, si_ne, sa_eq, sa_ne, upd_eq, upd_ne, updN_eq, updN_ne]
  · unfold FtC; simp (disch := omega) only [si_eq, si_ne, sa_eq, sa_ne, upd_eq, upd_ne, updN_eq, updN_ne]; exact e1
  · unfold FtM; simp (disch := omega) only [si_eq, si_ne, sa_eq, sa_ne, upd_eq, upd_ne, updN_eq, updN_ne]
  · unfold FtM; simp (disch := omega) only [si_eq, si_ne, sa_eq, sa_ne, upd_eq, upd_ne, updN_eq, updN_ne]; exact e2
  · unfold FtM; simp (disch := omega) only [si_eq, si_ne, sa_eq, sa_ne, upd_eq, upd_ne, updN_eq, updN_ne]; exact hM j hj
def NJ (o M : Ob) (σ t : Nat → Nat) (n a x k N d : Nat) (p e : Nat → Nat) (E : List Nat) : Prop := TS o M t n a x k ∧ 2 * N ≤ a ∧ d ≤ 2 ∧ M 26 0 = nI N ∧ M 27 0 = nI d ∧ o 10 0 = nI d ∧ M 22 = rw p ∧ M 23 = rw e ∧ Stk p e o M d N E ∧ LsC o E ∧ (∀ k, k ∈ E → k < σ 2) ∧ M 0 = rw σ ∧ o 2 0 = nI 0 ∧ M 13 0 = nI 0
/-- which way the model goes -/
theorem ns_A {o M : Ob} {t : Nat → Nat} {n a x k d : Nat} (h : TS o M t n a x k) (h27 : M 27 0 = nI d) (hd : d ≤ 2) (hk : k ≠ 93 ∨ d = 0) (hx : ¬ (k = 1 ∧ d = 0)) : nsM M = nsA M := by
  have e11 := h.2.2.2.2.1.2.2.1
  have k4 := kM_le k
  have hB : nsB M = nsA M := by
    unfold nsB
    by_cases q : d = 0
    · simp (maxSteps := 3000000) (disch := omega) only [↓nx_q, zb0_s, zb1_s, zb2_s, zb3_s, zb4_s, zb5_s, zb6_s, zb7_s, zb8_s, zb9_s, zb10_s, zb11_s, zb12_s, zb13_s, zb14_s, q_lit, nI_add, pk_mul, e_cl, gi_in, gz_n0, gz_n1, e_gz, si_eq, si_ne, sa_eq, sa_ne, if_true, if_false, ↓reduceIte, k_ltT, k_ltF, k_leT, k_leF, k_eqT, k_eqF, k_m1lt, k_nm1, not_true_eq_false, not_false_eq_true, h27]
    · rcases sign_both h (c := 93) (by decide) (by decide) with ⟨e, -⟩ | ⟨-, e, -⟩
      · omega
      · have z : ∀ {β : Type} {f : Int32 → Option β}, zb1 (f_X12_isSign M (nI 93)) f = f (nI 0) := fun {_ _} => zb1_of e
        simp (maxSteps := 3000000) (disch := omega) only [↓z, ↓nx_q, zb0_s, zb1_s, zb2_s, zb3_s, zb4_s, zb5_s, zb6_s, zb7_s, zb8_s, zb9_s, zb10_s, zb11_s, zb12_s, zb13_s, zb14_s, q_lit, nI_add, pk_mul, e_cl, gi_in, gz_n0, gz_n1, e_gz, si_eq, si_ne, sa_eq, sa_ne, if_true, if_false, ↓reduceIte, k_ltT, k_ltF, k_leT, k_leF, k_eqT, k_eqF, k_m1lt, k_nm1, not_true_eq_false, not_false_eq_true, h27]
  unfold nsM
  rw [hB]
  by_cases q : d = 0
  · have hkM : kM k ≠ 0 := fun e => hx ⟨kM_0.mp e, q⟩
    simp (maxSteps := 3000000) (disch := omega) only [↓nx_q, zb0_s, zb1_s, zb2_s, zb3_s, zb4_s, zb5_s, zb6_s, zb7_s, zb8_s, zb9_s, zb10_s, zb11_s, zb12_s, zb13_s, zb14_s, q_lit, nI_add, pk_mul, e_cl, gi_in, gz_n0, gz_n1, e_gz, si_eq, si_ne, sa_eq, sa_ne, if_true, if_false, ↓reduceIte, k_ltT, k_ltF, k_leT, k_leF, k_eqT, k_eqF, k_m1lt, k_nm1, not_true_eq_false, not_false_eq_true, h27, e11]
  · simp (maxSteps := 3000000) (disch := omega) only [↓nx_q, zb0_s, zb1_s, zb2_s, zb3_s, zb4_s, zb5_s, zb6_s, zb7_s, zb8_s, zb9_s, zb10_s, zb11_s, zb12_s, zb13_s, zb14_s, q_lit, nI_add, pk_mul, e_cl, gi_in, gz_n0, gz_n1, e_gz, si_eq, si_ne, sa_eq, sa_ne, if_true, if_false, ↓reduceIte, k_ltT, k_ltF, k_leT, k_leF, k_eqT, k_eqF, k_m1lt, k_nm1, not_true_eq_false, not_false_eq_true, h27, ite_self]
theorem ns_C {o M : Ob} {t : Nat → Nat} {n a x k d : Nat} (h : TS o M t n a x k) (h27 : M 27 0 = nI (d + 1)) (hd : d ≤ 1) (hk : k = 93) : nsM M = nsC M := by
  have hB : nsB M = nsC M := by
    unfold nsB
    rcases sign_both h (c := 93) (by decide) (by decide) with ⟨-, e, -⟩ | ⟨e, -⟩
    · have z : ∀ {β : Type} {f : Int32 → Option β}, zb1 (f_X12_isSign M (nI 93)) f = f (nI 1) := fun {_ _} => zb1_of e
      simp (maxSteps := 3000000) (disch := omega) only [↓z, ↓nx_q, zb0_s, zb1_s, zb2_s, zb3_s, zb4_s, zb5_s, zb6_s, zb7_s, zb8_s, zb9_s, zb10_s, zb11_s, zb12_s, zb13_s, zb14_s, q_lit, nI_add, pk_mul, e_cl, gi_in, gz_n0, gz_n1, e_gz, si_eq, si_ne, sa_eq, sa_ne, if_true, if_false, ↓reduceIte, k_ltT, k_ltF, k_leT, k_leF, k_eqT, k_eqF, k_m1lt, k_nm1, not_true_eq_false, not_false_eq_true, h27]
    · omega
  unfold nsM
  rw [hB]
  simp (maxSteps := 3000000) (disch := omega) only [↓nx_q, zb0_s, zb1_s, zb2_s, zb3_s, zb4_s, zb5_s, zb6_s, zb7_s, zb8_s, zb9_s, zb10_s, zb11_s, zb12_s, zb13_s, zb14_s, q_lit, nI_add, pk_mul, e_cl, gi_in, gz_n0, gz_n1, e_gz, si_eq, si_ne, sa_eq, sa_ne, if_true, if_false, ↓reduceIte, k_ltT, k_ltF, k_leT, k_leF, k_eqT, k_eqF, k_m1lt, k_nm1, not_true_eq_false, not_false_eq_true, h27, ite_self]
