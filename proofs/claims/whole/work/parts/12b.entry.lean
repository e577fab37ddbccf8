set_option maxRecDepth 20000 in
theorem en_0 : Cond.methodLinkNest RX11 9 yX6_init "TwoTierStore" ∈ lw_tbl := by decide +kernel
set_option maxRecDepth 20000 in
theorem en_1 : Cond.methodLinkNest RX11 18 yX10_init "TwoTierStore" ∈ lw_tbl := by decide +kernel
set_option maxRecDepth 20000 in
theorem en_2 : Cond.methodLinkNest RX11 32 yX3_init "TwoTierStore" ∈ lw_tbl := by decide +kernel
set_option maxRecDepth 20000 in
theorem en_3 : Cond.methodLinkNest RX11 43 yX2_init "TwoTierStore" ∈ lw_tbl := by decide +kernel
set_option maxRecDepth 20000 in
theorem en_4 : Cond.methodLinkNest RX11 50 yX1_init "TwoTierStore" ∈ lw_tbl := by decide +kernel
set_option maxRecDepth 20000 in
theorem en_5 : Cond.methodLinkNest RX11 57 yX8_init "TwoTierStore" ∈ lw_tbl := by decide +kernel
set_option maxRecDepth 20000 in
theorem en_6 : Cond.methodLinkNest RX11 76 yX7_init "TwoTierStore" ∈ lw_tbl := by decide +kernel
set_option maxRecDepth 20000 in
theorem en_7 : Cond.methodLinkNest RX9 11 yX10_init "TwoTierStore" ∈ lw_tbl := by decide +kernel
set_option maxRecDepth 20000 in
theorem en_8 : Cond.methodLinkNest RX9 20 yX8_init "TwoTierStore" ∈ lw_tbl := by decide +kernel
set_option maxRecDepth 20000 in
theorem en_9 : Cond.methodLinkNest RX9 27 yX4_init "TwoTierStore" ∈ lw_tbl := by decide +kernel
set_option maxRecDepth 20000 in
theorem en_10 : Cond.methodLinkNest RX9 38 yX0_init "TwoTierStore" ∈ lw_tbl := by decide +kernel
set_option maxRecDepth 20000 in
theorem en_aI : Cond.arrayClass .int ∈ lw_tbl := by decide +kernel
set_option maxRecDepth 20000 in
theorem en_aF : Cond.arrayClass .float ∈ lw_tbl := by decide +kernel
set_option maxRecDepth 20000 in
theorem en_aB : Cond.arrayClass .byte ∈ lw_tbl := by decide +kernel
set_option maxRecDepth 20000 in
theorem en_aZ : Cond.arrayClass .boolean ∈ lw_tbl := by decide +kernel
set_option maxRecDepth 20000 in
theorem en_oB : Cond.arrayOver (.object RX0) ∈ lw_tbl := by decide +kernel
set_option maxRecDepth 20000 in
theorem en_oS : Cond.arrayOver (.object RX9) ∈ lw_tbl := by decide +kernel
set_option maxRecDepth 20000 in
theorem en_ls1 : Cond.laysStatic "TwoTierStoreModel" "KNOWN" "[B" ∈ lw_tbl := by decide +kernel
set_option maxRecDepth 20000 in
theorem en_ls2 : Cond.laysStatic "java/lang/String" "COMPACT_STRINGS" "Z" ∈ lw_tbl := by decide +kernel
set_option maxRecDepth 20000 in
theorem en_ls3 : Cond.laysStatic "jdk/internal/util/Preconditions" "SIOOBE_FORMATTER" "Ljava/util/function/BiFunction;" ∈ lw_tbl := by decide +kernel
set_option maxRecDepth 20000 in
theorem en_in1 : Cond.initialized "TwoTierStoreModel" ∈ lw_tbl := by decide +kernel
set_option maxRecDepth 20000 in
theorem en_in2 : Cond.initialized "java/lang/String" ∈ lw_tbl := by decide +kernel
set_option maxRecDepth 20000 in
theorem en_in3 : Cond.initialized "jdk/internal/util/Preconditions" ∈ lw_tbl := by decide +kernel
set_option maxRecDepth 20000 in
theorem en_sr : ∀ i : Nat, i < 7 → Cond.stringRef "TwoTierStore$Reader" (sxI.getD i 0) (sxT.getD i "") ∈ lw_tbl := by decide +kernel
theorem en_K {s : State} {args : Array Value} (hts : ∀ w ∈ lw_tbl, w.before args s = true) : ∃ (D : va_G) (cA : Nat → ClassId), va_K D vwCl (tyL cA) s := by
  obtain ⟨c0, i0, k0⟩ := u_known (C := RX0) (T := TX0) (N := 10) (n := 10) hts inX0 (hts (.instantiable RX0 10) (by decide +kernel))
  obtain ⟨c1, i1, k1⟩ := u_known (C := RX1) (T := TX1) (N := 4) (n := 4) hts inX1 (hts (.instantiable RX1 4) (by decide +kernel))
  obtain ⟨c2, i2, k2⟩ := u_known (C := RX2) (T := TX2) (N := 3) (n := 3) hts inX2 (hts (.instantiable RX2 3) (by decide +kernel))
  obtain ⟨c3, i3, k3⟩ := u_known (C := RX3) (T := TX3) (N := 3) (n := 3) hts inX3 (hts (.instantiable RX3 3) (by decide +kernel))
  obtain ⟨c4, i4, k4⟩ := u_known (C := RX4) (T := TX4) (N := 5) (n := 5) hts inX4 (hts (.instantiable RX4 5) (by decide +kernel))
  obtain ⟨c5, i5, k5⟩ := u_known (C := RX5) (T := TX5) (N := 10) (n := 10) hts inX5 (hts (.instantiable RX5 10) (by decide +kernel))
  obtain ⟨c6, i6, k6⟩ := u_known (C := RX6) (T := TX6) (N := 17) (n := 17) hts inX6 (hts (.instantiable RX6 17) (by decide +kernel))
  obtain ⟨c7, i7, k7⟩ := u_known (C := RX7) (T := TX7) (N := 7) (n := 7) hts inX7 (hts (.instantiable RX7 7) (by decide +kernel))
  obtain ⟨c8, i8, k8⟩ := u_known (C := RX8) (T := TX8) (N := 7) (n := 7) hts inX8 (hts (.instantiable RX8 7) (by decide +kernel))
  obtain ⟨c9, i9, k9⟩ := u_known (C := RX9) (T := TX9) (N := 7) (n := 7) hts inX9 (hts (.instantiable RX9 7) (by decide +kernel))
  obtain ⟨c10, i10, k10⟩ := u_known (C := RX10) (T := TX10) (N := 5) (n := 5) hts inX10 (hts (.instantiable RX10 5) (by decide +kernel))
  obtain ⟨c11, i11, k11⟩ := u_known (C := RX11) (T := TX11) (N := 15) (n := 15) hts inX11 (hts (.instantiable RX11 15) (by decide +kernel))
  obtain ⟨c12, i12, k12⟩ := u_known (C := RX12) (T := TX12) (N := 47) (n := 47) hts inX12 (hts (.instantiable RX12 47) (by decide +kernel))
  obtain ⟨aI, qI, pI, hI1, hI2, hI3⟩ := Cond.arrayClass_spec (hts _ en_aI)
  obtain ⟨aF, qF, pF, hF1, hF2, hF3⟩ := Cond.arrayClass_spec (hts _ en_aF)
  obtain ⟨aB, qB, pB, hB1, hB2, hB3⟩ := Cond.arrayClass_spec (hts _ en_aB)
  obtain ⟨aZ, qZ, pZ, hZ1, hZ2, hZ3⟩ := Cond.arrayClass_spec (hts _ en_aZ)
  obtain ⟨pP, aP, qP, hP1, hP2, hP3, hP4, hP5⟩ := Cond.arrayOver_spec (hts _ en_oB)
  obtain ⟨pS, aS, qS, hS1, hS2, hS3, hS4, hS5⟩ := Cond.arrayOver_spec (hts _ en_oS)
  refine ⟨((fun k => if k = 0 then c0 else if k = 1 then c1 else if k = 2 then c2 else if k = 3 then c3 else if k = 4 then c4 else if k = 5 then c5 else if k = 6 then c6 else if k = 7 then c7 else if k = 8 then c8 else if k = 9 then c9 else if k = 10 then c10 else if k = 11 then c11 else c12), (fun k => if k = 0 then i0 else if k = 1 then i1 else if k = 2 then i2 else if k = 3 then i3 else if k = 4 then i4 else if k = 5 then i5 else if k = 6 then i6 else if k = 7 then i7 else if k = 8 then i8 else if k = 9 then i9 else if k = 10 then i10 else if k = 11 then i11 else i12)), (fun k => if k = 0 then aI else if k = 1 then aF else if k = 2 then aB else if k = 3 then aZ else if k = 4 then aP else aS), ?_, ?_⟩
  · intro k q hq
    match k, hq with
    | 0, hq => cases hq; exact k0
    | 1, hq => cases hq; exact k1
    | 2, hq => cases hq; exact k2
    | 3, hq => cases hq; exact k3
    | 4, hq => cases hq; exact k4
    | 5, hq => cases hq; exact k5
    | 6, hq => cases hq; exact k6
    | 7, hq => cases hq; exact k7
    | 8, hq => cases hq; exact k8
    | 9, hq => cases hq; exact k9
    | 10, hq => cases hq; exact k10
    | 11, hq => cases hq; exact k11
    | 12, hq => cases hq; exact k12
    | (k + 13), hq => exact absurd hq (by simp [vwCl])
  · intro k q hq
    match k, hq with
    | 0, hq => cases hq; exact ⟨fun n z => ⟨fun k h => (by cases h), qI, hI2, pI, hI3⟩, hI1⟩
    | 1, hq => cases hq; exact ⟨fun n z => ⟨fun k h => (by cases h), qF, hF2, pF, hF3⟩, hF1⟩
    | 2, hq => cases hq; exact ⟨fun n z => ⟨fun k h => (by cases h), qB, hB2, pB, hB3⟩, hB1⟩
    | 3, hq => cases hq; exact ⟨fun n z => ⟨fun k h => (by cases h), qZ, hZ2, pZ, hZ3⟩, hZ1⟩
    | 4, hq => cases hq; exact ⟨fun n z => ⟨fun k h => (by cases h), qP, hP3, pP, hP4⟩, qP, pP, hP3, hP4, hP1, hP5⟩
    | 5, hq => cases hq; exact ⟨fun n z => ⟨fun k h => (by cases h), qS, hS3, pS, hS4⟩, qS, pS, hS3, hS4, hS1, hS5⟩
    | (k + 6), hq => exact absurd hq (by simp [tyL])
theorem en_ny {s : State} {args : Array Value} (hts : ∀ w ∈ lw_tbl, w.before args s = true) : ny s := ⟨va_Nw.of rfl (hts _ en_0), va_Nw.of rfl (hts _ en_1), va_Nw.of rfl (hts _ en_2), va_Nw.of rfl (hts _ en_3), va_Nw.of rfl (hts _ en_4), va_Nw.of rfl (hts _ en_5), va_Nw.of rfl (hts _ en_6), va_Nw.of rfl (hts _ en_7), va_Nw.of rfl (hts _ en_8), va_Nw.of rfl (hts _ en_9), va_Nw.of rfl (hts _ en_10), va_AO.of (hts _ en_oB), va_AO.of (hts _ en_oS)⟩
set_option maxRecDepth 20000 in
theorem en_kn : ∀ j : Nat, j < 35 → Cond.eq (.elem (.static "TwoTierStoreModel" "KNOWN" "[B") (.int (Int32.ofNat j))) (.int (sxK.getD j 0)) ∈ flatC (Jvm.Cond.and given_1 narrow_1) := by decide +kernel
def sxTm (i : Nat) : Term := .string "TwoTierStore$Reader" (sxI.getD i 0)
set_option maxRecDepth 20000 in
theorem en_s1 : ∀ i : Nat, i < 7 → Cond.exactly (sxTm i) "java/lang/String" ∈ flatC (Jvm.Cond.and given_1 narrow_1) := by decide +kernel
set_option maxRecDepth 20000 in
theorem en_s2 : ∀ i : Nat, i < 7 → Cond.eq (.field (sxTm i) "java/lang/String" "coder" "B") (.int 0) ∈ flatC (Jvm.Cond.and given_1 narrow_1) := by decide +kernel
set_option maxRecDepth 20000 in
theorem en_s3 : ∀ i : Nat, i < 7 → Cond.arrayOf (.field (sxTm i) "java/lang/String" "value" "[B") .byte ∈ flatC (Jvm.Cond.and given_1 narrow_1) := by decide +kernel
set_option maxRecDepth 20000 in
theorem en_s4 : ∀ i : Nat, i < 7 → Cond.eq (.length (.field (sxTm i) "java/lang/String" "value" "[B")) (.int (Int32.ofNat (sxL.getD i 0))) ∈ flatC (Jvm.Cond.and given_1 narrow_1) := by decide +kernel
set_option maxRecDepth 20000 in
theorem en_s5 : ∀ i : Nat, i < 7 → ∀ j : Nat, j < sxL.getD i 0 → Cond.eq (.elem (.field (sxTm i) "java/lang/String" "value" "[B") (.int (Int32.ofNat j))) (.int ((sxB.getD i []).getD j 0)) ∈ flatC (Jvm.Cond.and given_1 narrow_1) := by decide +kernel
set_option maxRecDepth 20000 in
theorem en_s6 : ∀ i : Nat, i < 7 → ∀ j : Nat, j < 7 → i ≠ j → Cond.not (Cond.eq (sxTm i) (sxTm j)) ∈ flatC (Jvm.Cond.and given_1 narrow_1) ∨ Cond.not (Cond.eq (sxTm j) (sxTm i)) ∈ flatC (Jvm.Cond.and given_1 narrow_1) := by decide +kernel
theorem en_sx {s : State} {args : Array Value} {A : Nat → Prop} (hts : ∀ w ∈ lw_tbl, w.before args s = true) (hgv : (Jvm.Cond.and given_1 narrow_1).before args s = true) (hA : ∀ a : Nat, a < s.heap.size → ¬ A a) : ∃ g : Nat → Nat, sx g A s s.heap := by
  have hs := flat_of_before _ hgv
  obtain ⟨kn, hk1, hk2⟩ := va_Tof (tm := .static "TwoTierStoreModel" "KNOWN" "[B") (ty := .byte) (N := 35) (f := fun j => .int (sxK.getD j 0)) (A := A) (by decide) (hs _ (by decide +kernel)) (va_eqv (hs (Cond.eq (.length (.static "TwoTierStoreModel" "KNOWN" "[B")) (.int 35)) (by decide +kernel)) rfl) (fun j hj => va_eqv (hs _ (en_kn j hj)) rfl) hA
  obtain ⟨adK, adV, h1, h2⟩ := vk_Sof (tm := sxTm) (N := 7) (len := sxL) (byt := sxB) (A := A) (by decide) (fun i hi => hs _ (en_s1 i hi)) (fun i hi => hs _ (en_s2 i hi)) (fun i hi => hs _ (en_s3 i hi)) (fun i hi => hs _ (en_s4 i hi)) (fun i hi j hj => hs _ (en_s5 i hi j hj)) (fun i j hi hj hij => (en_s6 i hi j hj hij).elim (fun h => Or.inl (hs _ h)) (fun h => Or.inr (hs _ h))) hA
  refine ⟨fun k => if k = 0 then kn else if k < 10 then adK (k - 1) else adV (k - 10), ?_, ?_, ?_, ?_, ?_, ?_⟩
  · exact va_Zref (hts _ en_ls1) (hts _ en_in1) hk1 hA
  · exact hk2
  · exact va_Zof (hts _ en_ls2) (hts _ en_in2) (va_eqv (hs (Cond.eq (.static "java/lang/String" "COMPACT_STRINGS" "Z") (.int 1)) (by decide +kernel)) rfl) hA
  · exact va_Zqof (hts _ en_ls3) (hts _ en_in3) (hs _ (by decide +kernel)) hA
  · refine ⟨fun i hi => ?_, fun i j hi hj => ?_⟩
    · have e1 : (if 1 + i = 0 then kn else if 1 + i < 10 then adK (1 + i - 1) else adV (1 + i - 10)) = adK i := by
        rw [if_neg (by omega), if_pos (by omega)]; exact congrArg adK (by omega)
      have e2 : (if 10 + i = 0 then kn else if 10 + i < 10 then adK (10 + i - 1) else adV (10 + i - 10)) = adV i := by
        rw [if_neg (by omega), if_neg (by omega)]; exact congrArg adV (by omega)
      dsimp only
      rw [e1, e2]
      exact h1.1 i hi
    · have e1 : ∀ i, i < 7 → (if 1 + i = 0 then kn else if 1 + i < 10 then adK (1 + i - 1) else adV (1 + i - 10)) = adK i := fun i hi => by
        rw [if_neg (by omega), if_pos (by omega)]; exact congrArg adK (by omega)
      dsimp only
      rw [e1 i hi, e1 j hj]
      exact h1.2 i j hi hj
  · intro i hi
    have e1 : (if 1 + i = 0 then kn else if 1 + i < 10 then adK (1 + i - 1) else adV (1 + i - 10)) = adK i := by
      rw [if_neg (by omega), if_pos (by omega)]; exact congrArg adK (by omega)
    dsimp only
    rw [e1]
    exact vk_R.of (hts _ (en_sr i hi)) (h2 i hi)
