theorem zl1_i {α0 χ : Type} {B : α0 → Option ((α0) ⊕ χ)} {F : Nat} {a0 b0 : α0} (h : B a0 = some (.inl b0)) : zl1 B (F + 1) a0 = zl1 B F b0 := by
  conv => lhs; unfold zl1
  rw [h]
theorem zl1_o {α0 χ : Type} {B : α0 → Option ((α0) ⊕ χ)} {F : Nat} {x : χ} {a0 : α0} (h : B a0 = some (.inr x)) : zl1 B (F + 1) a0 = some x := by
  unfold zl1
  rw [h]
theorem zl2_i {α0 α1 χ : Type} {B : α0 → α1 → Option ((α0 × α1) ⊕ χ)} {F : Nat} {a0 b0 : α0} {a1 b1 : α1} (h : B a0 a1 = some (.inl (b0, b1))) : zl2 B (F + 1) a0 a1 = zl2 B F b0 b1 := by
  conv => lhs; unfold zl2
  rw [h]
theorem zl2_o {α0 α1 χ : Type} {B : α0 → α1 → Option ((α0 × α1) ⊕ χ)} {F : Nat} {x : χ} {a0 : α0} {a1 : α1} (h : B a0 a1 = some (.inr x)) : zl2 B (F + 1) a0 a1 = some x := by
  unfold zl2
  rw [h]
theorem zl3_i {α0 α1 α2 χ : Type} {B : α0 → α1 → α2 → Option ((α0 × α1 × α2) ⊕ χ)} {F : Nat} {a0 b0 : α0} {a1 b1 : α1} {a2 b2 : α2} (h : B a0 a1 a2 = some (.inl (b0, b1, b2))) : zl3 B (F + 1) a0 a1 a2 = zl3 B F b0 b1 b2 := by
  conv => lhs; unfold zl3
  rw [h]
theorem zl3_o {α0 α1 α2 χ : Type} {B : α0 → α1 → α2 → Option ((α0 × α1 × α2) ⊕ χ)} {F : Nat} {x : χ} {a0 : α0} {a1 : α1} {a2 : α2} (h : B a0 a1 a2 = some (.inr x)) : zl3 B (F + 1) a0 a1 a2 = some x := by
  unfold zl3
  rw [h]
theorem zl4_i {α0 α1 α2 α3 χ : Type} {B : α0 → α1 → α2 → α3 → Option ((α0 × α1 × α2 × α3) ⊕ χ)} {F : Nat} {a0 b0 : α0} {a1 b1 : α1} {a2 b2 : α2} {a3 b3 : α3} (h : B a0 a1 a2 a3 = some (.inl (b0, b1, b2, b3))) : zl4 B (F + 1) a0 a1 a2 a3 = zl4 B F b0 b1 b2 b3 := by
  conv => lhs; unfold zl4
  rw [h]
theorem zl4_o {α0 α1 α2 α3 χ : Type} {B : α0 → α1 → α2 → α3 → Option ((α0 × α1 × α2 × α3) ⊕ χ)} {F : Nat} {x : χ} {a0 : α0} {a1 : α1} {a2 : α2} {a3 : α3} (h : B a0 a1 a2 a3 = some (.inr x)) : zl4 B (F + 1) a0 a1 a2 a3 = some x := by
  unfold zl4
  rw [h]
theorem zl5_i {α0 α1 α2 α3 α4 χ : Type} {B : α0 → α1 → α2 → α3 → α4 → Option ((α0 × α1 × α2 × α3 × α4) ⊕ χ)} {F : Nat} {a0 b0 : α0} {a1 b1 : α1} {a2 b2 : α2} {a3 b3 : α3} {a4 b4 : α4} (h : B a0 a1 a2 a3 a4 = some (.inl (b0, b1, b2, b3, b4))) : zl5 B (F + 1) a0 a1 a2 a3 a4 = zl5 B F b0 b1 b2 b3 b4 := by
  conv => lhs; unfold zl5
  rw [h]
theorem zl5_o {α0 α1 α2 α3 α4 χ : Type} {B : α0 → α1 → α2 → α3 → α4 → Option ((α0 × α1 × α2 × α3 × α4) ⊕ χ)} {F : Nat} {x : χ} {a0 : α0} {a1 : α1} {a2 : α2} {a3 : α3} {a4 : α4} (h : B a0 a1 a2 a3 a4 = some (.inr x)) : zl5 B (F + 1) a0 a1 a2 a3 a4 = some x := by
  unfold zl5
  rw [h]
theorem zl6_i {α0 α1 α2 α3 α4 α5 χ : Type} {B : α0 → α1 → α2 → α3 → α4 → α5 → Option ((α0 × α1 × α2 × α3 × α4 × α5) ⊕ χ)} {F : Nat} {a0 b0 : α0} {a1 b1 : α1} {a2 b2 : α2} {a3 b3 : α3} {a4 b4 : α4} {a5 b5 : α5} (h : B a0 a1 a2 a3 a4 a5 = some (.inl (b0, b1, b2, b3, b4, b5))) : zl6 B (F + 1) a0 a1 a2 a3 a4 a5 = zl6 B F b0 b1 b2 b3 b4 b5 := by
  conv => lhs; unfold zl6
  rw [h]
theorem zl6_o {α0 α1 α2 α3 α4 α5 χ : Type} {B : α0 → α1 → α2 → α3 → α4 → α5 → Option ((α0 × α1 × α2 × α3 × α4 × α5) ⊕ χ)} {F : Nat} {x : χ} {a0 : α0} {a1 : α1} {a2 : α2} {a3 : α3} {a4 : α4} {a5 : α5} (h : B a0 a1 a2 a3 a4 a5 = some (.inr x)) : zl6 B (F + 1) a0 a1 a2 a3 a4 a5 = some x := by
  unfold zl6
  rw [h]
theorem zl7_i {α0 α1 α2 α3 α4 α5 α6 χ : Type} {B : α0 → α1 → α2 → α3 → α4 → α5 → α6 → Option ((α0 × α1 × α2 × α3 × α4 × α5 × α6) ⊕ χ)} {F : Nat} {a0 b0 : α0} {a1 b1 : α1} {a2 b2 : α2} {a3 b3 : α3} {a4 b4 : α4} {a5 b5 : α5} {a6 b6 : α6} (h : B a0 a1 a2 a3 a4 a5 a6 = some (.inl (b0, b1, b2, b3, b4, b5, b6))) : zl7 B (F + 1) a0 a1 a2 a3 a4 a5 a6 = zl7 B F b0 b1 b2 b3 b4 b5 b6 := by
  conv => lhs; unfold zl7
  rw [h]
theorem zl7_o {α0 α1 α2 α3 α4 α5 α6 χ : Type} {B : α0 → α1 → α2 → α3 → α4 → α5 → α6 → Option ((α0 × α1 × α2 × α3 × α4 × α5 × α6) ⊕ χ)} {F : Nat} {x : χ} {a0 : α0} {a1 : α1} {a2 : α2} {a3 : α3} {a4 : α4} {a5 : α5} {a6 : α6} (h : B a0 a1 a2 a3 a4 a5 a6 = some (.inr x)) : zl7 B (F + 1) a0 a1 a2 a3 a4 a5 a6 = some x := by
  unfold zl7
  rw [h]
theorem zl8_i {α0 α1 α2 α3 α4 α5 α6 α7 χ : Type} {B : α0 → α1 → α2 → α3 → α4 → α5 → α6 → α7 → Option ((α0 × α1 × α2 × α3 × α4 × α5 × α6 × α7) ⊕ χ)} {F : Nat} {a0 b0 : α0} {a1 b1 : α1} {a2 b2 : α2} {a3 b3 : α3} {a4 b4 : α4} {a5 b5 : α5} {a6 b6 : α6} {a7 b7 : α7} (h : B a0 a1 a2 a3 a4 a5 a6 a7 = some (.inl (b0, b1, b2, b3, b4, b5, b6, b7))) : zl8 B (F + 1) a0 a1 a2 a3 a4 a5 a6 a7 = zl8 B F b0 b1 b2 b3 b4 b5 b6 b7 := by
  conv => lhs; unfold zl8
  rw [h]
theorem zl8_o {α0 α1 α2 α3 α4 α5 α6 α7 χ : Type} {B : α0 → α1 → α2 → α3 → α4 → α5 → α6 → α7 → Option ((α0 × α1 × α2 × α3 × α4 × α5 × α6 × α7) ⊕ χ)} {F : Nat} {x : χ} {a0 : α0} {a1 : α1} {a2 : α2} {a3 : α3} {a4 : α4} {a5 : α5} {a6 : α6} {a7 : α7} (h : B a0 a1 a2 a3 a4 a5 a6 a7 = some (.inr x)) : zl8 B (F + 1) a0 a1 a2 a3 a4 a5 a6 a7 = some x := by
  unfold zl8
  rw [h]
theorem zl9_i {α0 α1 α2 α3 α4 α5 α6 α7 α8 χ : Type} {B : α0 → α1 → α2 → α3 → α4 → α5 → α6 → α7 → α8 → Option ((α0 × α1 × α2 × α3 × α4 × α5 × α6 × α7 × α8) ⊕ χ)} {F : Nat} {a0 b0 : α0} {a1 b1 : α1} {a2 b2 : α2} {a3 b3 : α3} {a4 b4 : α4} {a5 b5 : α5} {a6 b6 : α6} {a7 b7 : α7} {a8 b8 : α8} (h : B a0 a1 a2 a3 a4 a5 a6 a7 a8 = some (.inl (b0, b1, b2, b3, b4, b5, b6, b7, b8))) : zl9 B (F + 1) a0 a1 a2 a3 a4 a5 a6 a7 a8 = zl9 B F b0 b1 b2 b3 b4 b5 b6 b7 b8 := by
  conv => lhs; unfold zl9
  rw [h]
theorem zl9_o {α0 α1 α2 α3 α4 α5 α6 α7 α8 χ : Type} {B : α0 → α1 → α2 → α3 → α4 → α5 → α6 → α7 → α8 → Option ((α0 × α1 × α2 × α3 × α4 × α5 × α6 × α7 × α8) ⊕ χ)} {F : Nat} {x : χ} {a0 : α0} {a1 : α1} {a2 : α2} {a3 : α3} {a4 : α4} {a5 : α5} {a6 : α6} {a7 : α7} {a8 : α8} (h : B a0 a1 a2 a3 a4 a5 a6 a7 a8 = some (.inr x)) : zl9 B (F + 1) a0 a1 a2 a3 a4 a5 a6 a7 a8 = some x := by
  unfold zl9
  rw [h]
theorem zl10_i {α0 α1 α2 α3 α4 α5 α6 α7 α8 α9 χ : Type} {B : α0 → α1 → α2 → α3 → α4 → α5 → α6 → α7 → α8 → α9 → Option ((α0 × α1 × α2 × α3 × α4 × α5 × α6 × α7 × α8 × α9) ⊕ χ)} {F : Nat} {a0 b0 : α0} {a1 b1 : α1} {a2 b2 : α2} {a3 b3 : α3} {a4 b4 : α4} {a5 b5 : α5} {a6 b6 : α6} {a7 b7 : α7} {a8 b8 : α8} {a9 b9 : α9} (h : B a0 a1 a2 a3 a4 a5 a6 a7 a8 a9 = some (.inl (b0, b1, b2, b3, b4, b5, b6, b7, b8, b9))) : zl10 B (F + 1) a0 a1 a2 a3 a4 a5 a6 a7 a8 a9 = zl10 B F b0 b1 b2 b3 b4 b5 b6 b7 b8 b9 := by
  conv => lhs; unfold zl10
  rw [h]
theorem zl10_o {α0 α1 α2 α3 α4 α5 α6 α7 α8 α9 χ : Type} {B : α0 → α1 → α2 → α3 → α4 → α5 → α6 → α7 → α8 → α9 → Option ((α0 × α1 × α2 × α3 × α4 × α5 × α6 × α7 × α8 × α9) ⊕ χ)} {F : Nat} {x : χ} {a0 : α0} {a1 : α1} {a2 : α2} {a3 : α3} {a4 : α4} {a5 : α5} {a6 : α6} {a7 : α7} {a8 : α8} {a9 : α9} (h : B a0 a1 a2 a3 a4 a5 a6 a7 a8 a9 = some (.inr x)) : zl10 B (F + 1) a0 a1 a2 a3 a4 a5 a6 a7 a8 a9 = some x := by
  unfold zl10
  rw [h]
theorem zl11_i {α0 α1 α2 α3 α4 α5 α6 α7 α8 α9 α10 χ : Type} {B : α0 → α1 → α2 → α3 → α4 → α5 → α6 → α7 → α8 → α9 → α10 → Option ((α0 × α1 × α2 × α3 × α4 × α5 × α6 × α7 × α8 × α9 × α10) ⊕ χ)} {F : Nat} {a0 b0 : α0} {a1 b1 : α1} {a2 b2 : α2} {a3 b3 : α3} {a4 b4 : α4} {a5 b5 : α5} {a6 b6 : α6} {a7 b7 : α7} {a8 b8 : α8} {a9 b9 : α9} {a10 b10 : α10} (h : B a0 a1 a2 a3 a4 a5 a6 a7 a8 a9 a10 = some (.inl (b0, b1, b2, b3, b4, b5, b6, b7, b8, b9, b10))) : zl11 B (F + 1) a0 a1 a2 a3 a4 a5 a6 a7 a8 a9 a10 = zl11 B F b0 b1 b2 b3 b4 b5 b6 b7 b8 b9 b10 := by
  conv => lhs; unfold zl11
  rw [h]
theorem zl11_o {α0 α1 α2 α3 α4 α5 α6 α7 α8 α9 α10 χ : Type} {B : α0 → α1 → α2 → α3 → α4 → α5 → α6 → α7 → α8 → α9 → α10 → Option ((α0 × α1 × α2 × α3 × α4 × α5 × α6 × α7 × α8 × α9 × α10) ⊕ χ)} {F : Nat} {x : χ} {a0 : α0} {a1 : α1} {a2 : α2} {a3 : α3} {a4 : α4} {a5 : α5} {a6 : α6} {a7 : α7} {a8 : α8} {a9 : α9} {a10 : α10} (h : B a0 a1 a2 a3 a4 a5 a6 a7 a8 a9 a10 = some (.inr x)) : zl11 B (F + 1) a0 a1 a2 a3 a4 a5 a6 a7 a8 a9 a10 = some x := by
  unfold zl11
  rw [h]
/-! ===== draws ===== -/
def nsd (s : Int32) : Int32 := s * nI 1103515245 + nI 12345
def dwN (s : Int32) (n : Nat) : Nat := s.toBitVec.toNat / 256 % n
theorem dw_lt (s : Int32) {n : Nat} (h : 0 < n) : dwN s n < n := Nat.mod_lt _ h
theorem dw_val (s : Int32) {n : Nat} (h0 : 0 < n) (hn : n < 2147483648) : ((s.toUInt32 >>> ((nI 8).toUInt32 &&& Int32.toUInt32 31)).toInt32) - ((s.toUInt32 >>> ((nI 8).toUInt32 &&& Int32.toUInt32 31)).toInt32) / nI n * nI n = nI (dwN s n) := by
  have e : (s.toUInt32 >>> ((nI 8).toUInt32 &&& Int32.toUInt32 31)).toInt32 = nI (s.toBitVec.toNat / 256) := by
    apply Int32.toBitVec_inj.mp
    apply BitVec.eq_of_toNat_eq
    rw [pk_ushr s (nI 8) 8 (by decide)]
    show _ = (BitVec.ofNat 32 _).toNat
    rw [BitVec.toNat_ofNat]
    have := s.toBitVec.isLt
    rw [Nat.mod_eq_of_lt (by omega)]
  rw [e, pk_rem (by have := s.toBitVec.isLt; omega) h0 (by omega)]
  rfl
theorem c_draw {o : Ob} {n : Nat} (h0 : 0 < n) (hn : n < 2147483648) : f_X11_draw o (nI n) = some (si o 14 (nsd (o 14 0)), nI (dwN (nsd (o 14 0)) n)) := by
  have hd := dw_val (nsd (o 14 0)) h0 hn
  unfold f_X11_draw
  simp only [↓nx_q, si_eq]
  rw [if_pos (show (1 : Int32) ≤ nI n from nI_le (a := 1) (by omega) (by omega)), gn_ok h0 hn]
  exact congrArg (fun z => some (si o 14 (nsd (o 14 0)), z)) hd
theorem m_draw {M : Ob} {n : Nat} (h0 : 0 < n) (hn : n < 2147483648) : f_X12_draw M (nI n) = some (si M 46 (nsd (M 46 0)), nI (dwN (nsd (M 46 0)) n)) := by
  have hd := dw_val (nsd (M 46 0)) h0 hn
  unfold f_X12_draw
  simp only [↓nx_q, si_eq]
  rw [gn_ok h0 hn]
  exact congrArg (fun z => some (si M 46 (nsd (M 46 0)), z)) hd
/-- the draws, with what they are made of hidden -/
def DrS (ns : Int32 → Int32) (dw : Int32 → Nat → Nat) : Prop := (∀ s n, 0 < n → dw s n < n) ∧ (∀ (o : Ob) (n : Nat), 0 < n → n < 2147483648 → f_X11_draw o (nI n) = some (si o 14 (ns (o 14 0)), nI (dw (ns (o 14 0)) n))) ∧ (∀ (M : Ob) (n : Nat), 0 < n → n < 2147483648 → f_X12_draw M (nI n) = some (si M 46 (ns (M 46 0)), nI (dw (ns (M 46 0)) n)))
theorem draw_ex : ∃ (ns : Int32 → Int32) (dw : Int32 → Nat → Nat), DrS ns dw := ⟨nsd, dwN, fun s n h => dw_lt s h, fun o n h0 hn => c_draw h0 hn, fun M n h0 hn => m_draw h0 hn⟩
def diS (ns : Int32 → Int32) (dw : Int32 → Nat → Nat) (s : Int32) : Int32 := if dw (ns s) 3 = 0 then ns (ns s) else ns (ns (ns s))
def diK (ns : Int32 → Int32) (dw : Int32 → Nat → Nat) (s : Int32) (n : Nat) : Nat := if dw (ns s) 3 = 0 then dw (ns (ns s)) n else dw (ns (ns (ns s))) (dw (ns (ns s)) n + 1)
theorem di_lt {ns : Int32 → Int32} {dw : Int32 → Nat → Nat} (hD : DrS ns dw) (s : Int32) {n : Nat} (h : 0 < n) : diK ns dw s n < n := by
  have h1 := hD.1 (ns (ns s)) n h
  unfold diK
  split
  · exact h1
  · have := hD.1 (ns (ns (ns s))) (dw (ns (ns s)) n + 1) (by omega)
    omega
theorem c_drawItem {ns : Int32 → Int32} {dw : Int32 → Nat → Nat} (hD : DrS ns dw) {o w : Ob} {n : Nat} (hw : w 0 0 = nI n) (h0 : 0 < n) (hn : n ≤ 8) : ∃ o', f_X11_drawItem o w = some (o', nI (diK ns dw (o 14 0) n)) ∧ o' 14 0 = diS ns dw (o 14 0) ∧ ∀ j, j ≠ 14 → o' j = o j := by
  have d3 := hD.2.1 o 3 (by decide) (by decide)
  have dn := hD.2.1 (si o 14 (ns (o 14 0))) n h0 (by omega)
  rw [si_eq] at dn
  have hk := hD.1 (ns (ns (o 14 0))) n h0
  have dk := hD.2.1 (si (si o 14 (ns (o 14 0))) 14 (ns (ns (o 14 0)))) (dw (ns (ns (o 14 0))) n + 1) (by omega) (by omega)
  rw [si_eq] at dk
  have h3 := hD.1 (ns (o 14 0)) 3 (by decide)
  unfold f_X11_drawItem diK diS
  by_cases q : dw (ns (o 14 0)) 3 = 0
  · rw [if_pos q, if_pos q]
    simp (maxSteps := 3000000) (disch := omega) only [↓nx_q, zb0_s, zb1_s, zb2_s, zb3_s, zb4_s, zb5_s, zb6_s, zb7_s, zb8_s, zb9_s, zb10_s, zb11_s, zb12_s, zb13_s, zb14_s, q_lit, nI_add, pk_mul, e_cl, gi_in, gz_n0, gz_n1, e_gz, si_eq, si_ne, sa_eq, sa_ne, if_true, if_false, ↓reduceIte, k_ltT, k_ltF, k_leT, k_leF, k_eqT, k_eqF, k_m1lt, k_nm1, not_true_eq_false, not_false_eq_true, d3, hw, dn]
    refine ⟨_, rfl, ?_, fun j hj => ?_⟩
    · simp (disch := omega) only [si_eq, si_ne, sa_eq, sa_ne, upd_eq, upd_ne, updN_eq, updN_ne]
    · simp (disch := omega) only [si_eq, si_ne, sa_eq, sa_ne, upd_eq, upd_ne, updN_eq, updN_ne]
  · rw [if_neg q, if_neg q]
    simp (maxSteps := 3000000) (disch := omega) only [↓nx_q, zb0_s, zb1_s, zb2_s, zb3_s, zb4_s, zb5_s, zb6_s, zb7_s, zb8_s, zb9_s, zb10_s, zb11_s, zb12_s, zb13_s, zb14_s, q_lit, nI_add, pk_mul, e_cl, gi_in, gz_n0, gz_n1, e_gz, si_eq, si_ne, sa_eq, sa_ne, if_true, if_false, ↓reduceIte, k_ltT, k_ltF, k_leT, k_leF, k_eqT, k_eqF, k_m1lt, k_nm1, not_true_eq_false, not_false_eq_true, d3, hw, dn, dk]
    refine ⟨_, rfl, ?_, fun j hj => ?_⟩
    · simp (disch := omega) only [si_eq, si_ne, sa_eq, sa_ne, upd_eq, upd_ne, updN_eq, updN_ne]
    · simp (disch := omega) only [si_eq, si_ne, sa_eq, sa_ne, upd_eq, upd_ne, updN_eq, updN_ne]
