/-! ===== HEAT ===== -/
def htm_f (h : Nat) : Nat := (FP.fmul (nI h).toUInt32 1063256064).toNat
def hta_f (h : Nat) : Nat := (FP.fadd (nI h).toUInt32 FP.fconst1).toNat
theorem u_i (u : UInt32) : u.toInt32 = nI u.toNat := by
  apply Int32.toBitVec_inj.mp
  show u.toBitVec = BitVec.ofNat 32 u.toBitVec.toNat
  simp
theorem u_nI (u : UInt32) : (nI u.toNat).toUInt32 = u := by
  rw [← u_i]
  simp
theorem u_fm (h : Nat) : FP.fmul (nI h).toUInt32 1063256064 = (nI (htm_f h)).toUInt32 := (u_nI _).symm
theorem u_fa (h : Nat) : FP.fadd (nI h).toUInt32 FP.fconst1 = (nI (hta_f h)).toUInt32 := (u_nI _).symm
theorem u_back (h : Nat) : (nI h).toUInt32.toInt32 = nI h := by simp
theorem u_toNat {h : Nat} (hh : h < 4294967296) : (nI h).toUInt32.toNat = h := Nat.mod_eq_of_lt hh
theorem gq_of {β : Type} {u : UInt32} {x : Option β} (h : u.toNat ≤ 2139095040) : gq u x = x := by
  refine if_pos ?_
  show (u &&& 2147483647).toNat ≤ (2139095040 : UInt32).toNat
  rw [UInt32.toNat_and]
  exact Nat.le_trans Nat.and_le_left h
theorem gq_n {β : Type} {h : Nat} {x : Option β} (hh : h ≤ 2139095040) : gq (nI h).toUInt32 x = x := gq_of (by rw [u_toNat (by omega)]; exact hh)
theorem gb_n {β : Type} {h : Nat} {x : Option β} (hh : h ≤ 2139095040) : gb (nI h) x = x := by
  refine if_neg (fun q => ?_)
  unfold vn_sni2f at q
  rw [Bool.and_eq_true] at q
  have q1 := of_decide_eq_true q.1
  have : ((nI h).toUInt32 &&& 2147483647).toNat ≤ 2139095040 := by
    rw [UInt32.toNat_and, u_toNat (by omega)]
    exact Nat.le_trans Nat.and_le_left hh
  exact absurd (UInt32.lt_iff_toNat_lt.mp q1) (by show ¬ 2139095040 < _; omega)
/-- HEAT's bits behind c REQUESTS -/
def HT (c h : Nat) : Prop := h = 0 ∨ ((127 - c) * 8388608 ≤ h ∧ h ≤ (128 + c) * 8388608)
theorem HT_lt {c h : Nat} (hc : c ≤ 101) (hh : HT c h) : h < 2139095040 := by
  rcases hh with hh | hh <;> omega
/-! ===== floats: what the library knows of them ===== -/
theorem fp_u (n : Nat) : UInt32.ofNat n = (nI n).toUInt32 := rfl
theorem fp_dec {E T : Nat} (h1 : 1 ≤ E) (h2 : E ≤ 254) (hT : T < 8388608) : FP.Core.decode FP.Core.b32 (E * 8388608 + T) = .fin false (8388608 + T) ((E : Int) - 150) := by
  have h := FP.Core.decode_assemble FP.Core.b32 false E T (show E < 2 ^ 8 by omega) (show T < 2 ^ 23 by omega)
  have e : FP.Core.assemble FP.Core.b32 false E T = E * 8388608 + T := by
    show (0 * 2 ^ 8 + E) * 2 ^ 23 + T = _
    omega
  rw [e, FP.Core.exps_b32, FP.Core.tails_b32, FP.Core.qmin_b32, if_neg (show ¬ E = 255 by omega), if_neg (show ¬ E = 0 by omega)] at h
  have e2 : (-149 : Int) + ((E : Int) - 1) = (E : Int) - 150 := by omega
  refine h.trans ?_
  show FP.Core.Datum.fin false (8388608 + T) ((-149 : Int) + ((E : Int) - 1)) = _
  rw [e2]
theorem fp_fits {E T : Nat} (h1 : 1 ≤ E) (h2 : E ≤ 254) (hT : T < 8388608) : FP.Core.fits FP.Core.b32 (.fin false (8388608 + T) ((E : Int) - 150)) := by
  have h := FP.Core.decode_fits FP.Core.good_b32 (E * 8388608 + T)
  rw [fp_dec h1 h2 hT] at h
  exact h
theorem fp_enc {E T : Nat} (h1 : 1 ≤ E) (h2 : E ≤ 254) (hT : T < 8388608) : FP.Core.encode FP.Core.b32 (.fin false (8388608 + T) ((E : Int) - 150)) = E * 8388608 + T := by
  have h := FP.Core.encode_decode FP.Core.good_b32 (E * 8388608 + T) (by rw [FP.Core.size_b32]; omega) (by rw [fp_dec h1 h2 hT]; intro y; cases y)
  rw [fp_dec h1 h2 hT] at h
  exact h
theorem fp_ET {h : Nat} (h1 : 8388608 ≤ h) (h2 : h < 255 * 8388608) : ∃ E T, h = E * 8388608 + T ∧ 1 ≤ E ∧ E ≤ 254 ∧ T < 8388608 := ⟨h / 8388608, h % 8388608, by omega, by omega, by omega, by omega⟩
/-- twice -/
theorem fp_x2 {h : Nat} (h1 : 8388608 ≤ h) (h2 : h < 254 * 8388608) : FP.fmul (nI h).toUInt32 FP.fconst2 = (nI (h + 8388608)).toUInt32 := by
  obtain ⟨E, T, rfl, e1, e2, e3⟩ := fp_ET h1 (by omega)
  show UInt32.ofNat (FP.Core.mul FP.Core.b32 (nI (E * 8388608 + T)).toUInt32.toNat (128 * 8388608 + 0)) = _
  unfold FP.Core.mul
  rw [u_toNat (by omega), fp_dec e1 e2 e3, fp_dec (E := 128) (T := 0) (by decide) (by decide) (by decide)]
  show UInt32.ofNat (FP.Core.encode FP.Core.b32 (FP.Core.roundRatio FP.Core.b32 false ((8388608 + T) * (8388608 + 0)) 1 ((E : Int) - 150 + ((128 : Nat) - 150 : Int)))) = _
  have hr : FP.Core.roundRatio FP.Core.b32 false ((8388608 + T) * (8388608 + 0)) 1 ((E : Int) - 150 + ((128 : Nat) - 150 : Int)) = .fin false (8388608 + T) (((E + 1 : Nat) : Int) - 150) := by
    refine FP.Core.roundRatio_exact FP.Core.good_b32 (by decide) (fp_fits (E := E + 1) (by omega) (by omega) e3) ?_
    have a1 : ((E : Int) - 150 + ((128 : Nat) - 150 : Int) - (((E + 1 : Nat) : Int) - 150)).toNat = 0 := by omega
    have a2 : ((((E + 1 : Nat) : Int) - 150) - ((E : Int) - 150 + ((128 : Nat) - 150 : Int))).toNat = 23 := by omega
    rw [a1, a2]
    omega
  rw [hr, fp_enc (E := E + 1) (by omega) (by omega) e3, fp_u]
  exact congrArg (fun n => (nI n).toUInt32) (by omega)
theorem fp_quo {c d : Nat} (hd : d ≠ 0) (q r : Int) : FP.Core.quotient FP.Core.b32 (.fin false c q) (.fin false d r) = FP.Core.roundRatio FP.Core.b32 false c d (q - r) := by
  simp only [FP.Core.quotient, if_neg hd]
  try rfl
/-- a half -/
theorem fp_d2 {h : Nat} (h1 : 2 * 8388608 ≤ h) (h2 : h < 255 * 8388608) : FP.fdiv (nI h).toUInt32 FP.fconst2 = (nI (h - 8388608)).toUInt32 := by
  obtain ⟨E, T, rfl, e1, e2, e3⟩ := fp_ET (h := h) (by omega) h2
  show UInt32.ofNat (FP.Core.div FP.Core.b32 (nI (E * 8388608 + T)).toUInt32.toNat (128 * 8388608 + 0)) = _
  unfold FP.Core.div
  rw [u_toNat (by omega), fp_dec e1 e2 e3, fp_dec (E := 128) (T := 0) (by decide) (by decide) (by decide)]
  have hq := fp_quo (c := 8388608 + T) (d := 8388608 + 0) (by decide) ((E : Int) - 150) (((128 : Nat) : Int) - 150)
  have hr : FP.Core.roundRatio FP.Core.b32 false (8388608 + T) (8388608 + 0) ((E : Int) - 150 - ((128 : Nat) - 150 : Int)) = .fin false (8388608 + T) (((E - 1 : Nat) : Int) - 150) := by
    refine FP.Core.roundRatio_exact FP.Core.good_b32 (by decide) (fp_fits (E := E - 1) (by omega) (by omega) e3) ?_
    have a1 : ((E : Int) - 150 - ((128 : Nat) - 150 : Int) - (((E - 1 : Nat) : Int) - 150)).toNat = 23 := by omega
    have a2 : ((((E - 1 : Nat) : Int) - 150) - ((E : Int) - 150 - ((128 : Nat) - 150 : Int))).toNat = 0 := by omega
    rw [a1, a2]
    omega
  rw [hq, hr, fp_enc (E := E - 1) (by omega) (by omega) e3, fp_u]
  exact congrArg (fun n => (nI n).toUInt32) (by omega)
/-- by 2 to the 23rd -/
theorem fp_x23 {T : Nat} (hT : T < 8388608) : FP.fmul (nI (127 * 8388608 + T)).toUInt32 (1258291200 : UInt32) = (nI (150 * 8388608 + T)).toUInt32 := by
  show UInt32.ofNat (FP.Core.mul FP.Core.b32 (nI (127 * 8388608 + T)).toUInt32.toNat (150 * 8388608 + 0)) = _
  unfold FP.Core.mul
  rw [u_toNat (by omega), fp_dec (by decide) (by decide) hT, fp_dec (E := 150) (T := 0) (by decide) (by decide) (by decide)]
  show UInt32.ofNat (FP.Core.encode FP.Core.b32 (FP.Core.roundRatio FP.Core.b32 false ((8388608 + T) * (8388608 + 0)) 1 (((127 : Nat) : Int) - 150 + (((150 : Nat) : Int) - 150)))) = _
  have hr : FP.Core.roundRatio FP.Core.b32 false ((8388608 + T) * (8388608 + 0)) 1 (((127 : Nat) : Int) - 150 + (((150 : Nat) : Int) - 150)) = .fin false (8388608 + T) (((150 : Nat) : Int) - 150) := by
    refine FP.Core.roundRatio_exact FP.Core.good_b32 (by decide) (fp_fits (E := 150) (by decide) (by decide) hT) ?_
    have a1 : ((((127 : Nat) : Int) - 150 + (((150 : Nat) : Int) - 150)) - (((150 : Nat) : Int) - 150)).toNat = 0 := by omega
    have a2 : ((((150 : Nat) : Int) - 150) - (((127 : Nat) : Int) - 150 + (((150 : Nat) : Int) - 150))).toNat = 23 := by omega
    rw [a1, a2]
    omega
  rw [hr, fp_enc (E := 150) (by decide) (by decide) hT, fp_u]
theorem fp_f2i {T : Nat} (hT : T < 8388608) : FP.f2i (nI (150 * 8388608 + T)).toUInt32 = nI (8388608 + T) := by
  show FP.Core.toI (FP.Core.decode FP.Core.b32 (nI (150 * 8388608 + T)).toUInt32.toNat) = _
  rw [u_toNat (by omega), fp_dec (by decide) (by decide) hT]
  have e : FP.Core.toInt (-2 ^ 31) (2 ^ 31 - 1) (.fin false (8388608 + T) (((150 : Nat) : Int) - 150)) = ((8388608 + T : Nat) : Int) := by
    show max (-2 ^ 31) (min (2 ^ 31 - 1) (FP.Core.truncate false (8388608 + T) (((150 : Nat) : Int) - 150))) = _
    have e2 : FP.Core.truncate false (8388608 + T) (((150 : Nat) : Int) - 150) = ((8388608 + T : Nat) : Int) := by
      show (((8388608 + T) * 2 ^ 0 / 2 ^ 0 : Nat) : Int) = _
      rw [Nat.pow_zero, Nat.mul_one, Nat.div_one]
    rw [e2]
    omega
  unfold FP.Core.toI
  rw [e]
  exact Int32.ofInt_eq_ofNat
theorem fp_cmp {a b : Nat} (ha : a ≤ 2139095040) (hb : b ≤ 2139095040) : FP.fcmp (nI a).toUInt32 (nI b).toUInt32 = some (compare (a : Int) (b : Int)) := by
  show FP.Core.cmp FP.Core.b32 (nI a).toUInt32.toNat (nI b).toUInt32.toNat = _
  have k : ∀ n, n ≤ 2139095040 → n < 2 * FP.Core.half FP.Core.b32 ∧ FP.Core.decode FP.Core.b32 n ≠ .nan ∧ FP.Core.key FP.Core.b32 n = (n : Int) := by
    intro n hn
    have m : FP.Core.mag FP.Core.b32 n = n := FP.Core.mag_of_lt (by rw [FP.Core.half_b32]; omega)
    refine ⟨by rw [FP.Core.half_b32]; omega, fun y => ?_, ?_⟩
    · have := (FP.Core.decode_nan n).mp y
      rw [m, FP.Core.infBits_b32] at this
      omega
    · unfold FP.Core.key
      rw [m, FP.Core.half_b32, decide_eq_false (by omega)]
      rfl
  rw [u_toNat (by omega), u_toNat (by omega), FP.Core.cmp_key FP.Core.good_b32 (k a ha).1 (k b hb).1 (k a ha).2.1 (k b hb).2.1, (k a ha).2.2, (k b hb).2.2]
theorem fp_co (a b : Int) : compare a b = if a < b then Ordering.lt else if a = b then Ordering.eq else Ordering.gt := rfl
theorem fp_lt {a b : Nat} (hb : b ≤ 2139095040) (h : a < b) (op : CmpOp) : Op.cmpValue (FP.fcmp (nI a).toUInt32 (nI b).toUInt32) op = -1 := by
  rw [fp_cmp (by omega) hb, fp_co, if_pos (by omega)]
  rfl
theorem fp_gt {a b : Nat} (ha : a ≤ 2139095040) (h : b < a) (op : CmpOp) : Op.cmpValue (FP.fcmp (nI a).toUInt32 (nI b).toUInt32) op = 1 := by
  rw [fp_cmp ha (by omega), fp_co, if_neg (by omega), if_neg (by omega)]
  rfl
theorem fp_eq {a : Nat} (ha : a ≤ 2139095040) (op : CmpOp) : Op.cmpValue (FP.fcmp (nI a).toUInt32 (nI a).toUInt32) op = 0 := by
  rw [fp_cmp ha ha, fp_co, if_neg (by omega), if_pos rfl]
  rfl
theorem f2i_n {u : UInt32} (h : u.toNat ≤ 2139095040) : f_Jxf58ca_floatToIntBits_5c35a u = some u.toInt32 := by
  have e : f_Jxf58ca_isNaN_12338 u = some 0 := by
    unfold f_Jxf58ca_isNaN_12338
    rw [← u_nI u, fp_eq h, if_pos rfl]
  unfold f_Jxf58ca_floatToIntBits_5c35a
  rw [zb1_of e, if_pos rfl]
theorem f2i_h {h : Nat} (hh : h ≤ 2139095040) : f_Jxf58ca_floatToIntBits_5c35a (nI h).toUInt32 = some (nI h) := by
  rw [f2i_n (by rw [u_toNat (by omega)]; exact hh), u_back]
/-- no NaN: HEAT by RENT -/
theorem gq_v {β : Type} {u : UInt32} {x : Option β} (h : FP.Core.val32 u ≠ .nan) : gq u x = x := by
  refine if_pos ?_
  have h2 := (FP.Core.ne_nan32 u).mp h
  show (u &&& 2147483647).toNat ≤ (2139095040 : UInt32).toNat
  rw [UInt32.toNat_and]
  show u.toNat &&& (2 ^ 31 - 1) ≤ 2139095040
  rw [Nat.and_two_pow_sub_one_eq_mod]
  exact h2
theorem gq_r {β : Type} {h : Nat} {v : Int32} {x : Option β} (hh : h < 2139095040) : gq (FP.fmul (nI h).toUInt32 (FP.i2f v)) x = x := by
  refine gq_v ?_
  obtain ⟨s, c, q, e1⟩ := (FP.Core.fin_bits32 (nI h).toUInt32).mpr (by rw [u_toNat (by omega)]; omega)
  obtain ⟨t, d, r, e2⟩ := FP.Core.i2f_fin v
  show FP.Core.val32 (FP.Core.fmul (nI h).toUInt32 (FP.Core.i2f v)) ≠ .nan
  rw [FP.Core.val32_fmul, e1, e2]
  exact FP.Core.roundRatio_ne_nan _ _ _ _ _
/-! units -/
theorem fp_st {K : Nat} (h : 1 ≤ K) : FP.Core.unitsOf FP.Core.b32 (K * 8388608) = 8388608 * 2 ^ (K - 1) := FP.Core.unitsOf_start (f := FP.Core.b32) h
theorem fp_un {h : Nat} (h1 : 2 * 8388608 ≤ h) : FP.Core.unitsOf FP.Core.b32 h = 2 * FP.Core.unitsOf FP.Core.b32 (h - 8388608) := by
  unfold FP.Core.unitsOf
  rw [FP.Core.tails_b32, if_neg (by omega), if_neg (by omega)]
  have a1 : (h - 8388608) % 2 ^ 23 = h % 2 ^ 23 := by omega
  have a2 : h / 2 ^ 23 - 1 = (h - 8388608) / 2 ^ 23 - 1 + 1 := by omega
  rw [a1, a2, Nat.pow_succ (m := (h - 8388608) / 2 ^ 23 - 1)]
  generalize 2 ^ 23 + h % 2 ^ 23 = X
  generalize 2 ^ ((h - 8388608) / 2 ^ 23 - 1) = Y
  rw [← Nat.mul_assoc, Nat.mul_comm 2]
/-- a float's sign is off: its bits are its magnitude -/
theorem fp_pos {n : Nat} {A B : Nat} {e : Int} {u : UInt32} (hu : u.toNat = n) (hd : FP.Core.decode FP.Core.b32 n = FP.Core.roundRatio FP.Core.b32 false A B e) : FP.Core.mag FP.Core.b32 n = n := by
  have h1 : FP.Core.val32 u = FP.Core.roundRatio FP.Core.b32 false A B e := by
    unfold FP.Core.val32
    rw [hu]
    exact hd
  have h2 := FP.Core.sgn_bits32 (a := u) (by rw [h1]; exact FP.Core.roundRatio_ne_nan _ _ _ _ _)
  rw [h1, FP.Core.sgn_roundRatio, hu] at h2
  have h3 := of_decide_eq_false h2.symm
  exact FP.Core.mag_of_lt (by rw [FP.Core.half_b32]; omega)
theorem fp_fin {h : Nat} (hh : h < 2139095040) : ∃ c q, FP.Core.decode FP.Core.b32 h = .fin false c q ∧ FP.Core.fits FP.Core.b32 (.fin false c q) ∧ FP.Core.zmag FP.Core.b32 (.fin false c q) = FP.Core.unitsOf FP.Core.b32 h := by
  have m : FP.Core.mag FP.Core.b32 h = h := FP.Core.mag_of_lt (by rw [FP.Core.half_b32]; omega)
  obtain ⟨s, c, q, e1, e2, e3⟩ := FP.Core.fin_of_mag FP.Core.good_b32 (n := h) (by rw [m, FP.Core.infBits_b32]; exact hh)
  rw [m] at e3
  have hs := FP.Core.sgn_decode (f := FP.Core.b32) (n := h) (by rw [m, FP.Core.infBits_b32]; omega) (by rw [FP.Core.half_b32]; omega)
  rw [e1, FP.Core.half_b32, decide_eq_false (by omega)] at hs
  have hs : s = false := hs
  subst hs
  exact ⟨c, q, e1, e2, e3⟩
theorem fp_c {c : Nat} (hc : c ≤ 100) : 127 - c = 127 - (c + 1) + 1 := by omega
theorem fp_ht {c h m : Nat} (hc : c ≤ 100) (h1 : (127 - c) * 8388608 ≤ h) (h2 : h ≤ (128 + c) * 8388608) (lo : h - 8388608 ≤ m) (up : m ≤ h) : HT (c + 1) m := by
  rw [fp_c hc, Nat.add_mul, Nat.one_mul] at h1
  exact Or.inr ⟨Nat.le_trans (Nat.le_sub_of_add_le h1) lo, Nat.le_trans up (Nat.le_trans h2 (Nat.mul_le_mul_right _ (Nat.add_le_add_left (Nat.le_succ c) 128)))⟩
theorem HT_fm {c h : Nat} (hc : c ≤ 100) (hh : HT c h) : HT (c + 1) (htm_f h) ∧ htm_f h ≤ h := by
  rcases hh with rfl | ⟨h1, h2⟩
  · have : htm_f 0 = 0 := by decide +kernel
    rw [this]
    exact ⟨Or.inl rfl, Nat.le_refl _⟩
  · have l1 : 27 * 8388608 ≤ h := Nat.le_trans (Nat.mul_le_mul_right _ (by omega)) h1
    have l2 : h ≤ 228 * 8388608 := Nat.le_trans h2 (Nat.mul_le_mul_right _ (by omega))
    have hun := fp_un (h := h) (Nat.le_trans (by decide) l1)
    have hi1 : h - 8388608 ≤ 2139095040 := Nat.le_trans (Nat.sub_le _ _) (Nat.le_trans l2 (by decide))
    obtain ⟨ca, qa, x1, x2, x3⟩ := fp_fin (h := h) (by omega)
    obtain ⟨cb, qb, y1, y2, y3⟩ := fp_fin (h := 1063256064) (by decide)
    obtain ⟨p1, p2, p3⟩ := FP.Core.product_units x2 y2
    have hn : htm_f h = FP.Core.mul FP.Core.b32 h 1063256064 := by
      have := FP.Core.toNat_of32 (d := FP.Core.round FP.Core.b32 (FP.Core.exactProduct (FP.Core.val32 (nI h).toUInt32) (FP.Core.val32 1063256064))) (FP.Core.round_fits FP.Core.good_b32 _)
      unfold FP.Core.val32 at this
      rw [u_toNat (by omega)] at this
      unfold htm_f
      show (UInt32.ofNat (FP.Core.mul FP.Core.b32 (nI h).toUInt32.toNat 1063256064)).toNat = _
      rw [u_toNat (by omega)]
      exact this
    have hd : FP.Core.decode FP.Core.b32 (htm_f h) = FP.Core.roundRatio FP.Core.b32 false (ca * cb) 1 (qa + qb) := by
      rw [hn]
      unfold FP.Core.mul
      rw [FP.Core.decode_enc FP.Core.good_b32 (FP.Core.round_fits FP.Core.good_b32 _), x1, y1, p1]
      rfl
    have hm := fp_pos (n := htm_f h) (u := FP.fmul (nI h).toUInt32 1063256064) rfl hd
    have uy : FP.Core.unitsOf FP.Core.b32 1063256064 = 14680064 * 2 ^ 125 := by decide +kernel
    have up := FP.Core.mag_le FP.Core.good_b32 (m := h) hd (by decide) (e0 := 2 * FP.Core.b32.qmin) (by rw [FP.Core.qmin_b32]; decide) p2 (by
      rw [p3, x3, y3, uy, Nat.mul_one]
      refine Nat.mul_le_mul_left _ ?_
      rw [FP.Core.qmin_b32]
      decide +kernel)
    have lo := FP.Core.mag_ge FP.Core.good_b32 (m := h - 8388608) hd (by decide) (e0 := 2 * FP.Core.b32.qmin) (by rw [FP.Core.qmin_b32]; decide) p2 (by rw [FP.Core.infBits_b32]; exact hi1) (by
      rw [p3, x3, y3, uy, Nat.mul_one, hun, Nat.mul_comm 2, Nat.mul_assoc]
      refine Nat.mul_le_mul_left _ ?_
      rw [FP.Core.qmin_b32]
      decide +kernel)
    rw [hm] at up lo
    exact ⟨fp_ht hc h1 h2 lo up, up⟩
theorem HT_fa {c h : Nat} (hc : c ≤ 100) (hh : HT (c + 1) h) (h2 : h ≤ (128 + c) * 8388608) : HT (c + 1) (hta_f h) := by
  have l2 : h ≤ 228 * 8388608 := Nat.le_trans h2 (Nat.mul_le_mul_right _ (by omega))
  obtain ⟨ca, qa, x1, x2, x3⟩ := fp_fin (h := h) (by omega)
  obtain ⟨cb, qb, y1, y2, y3⟩ := fp_fin (h := 127 * 8388608) (by decide)
  obtain ⟨sg, n, e, p1, p2, p3⟩ := FP.Core.sum_units x2 y2
  have hz : FP.Core.zval FP.Core.b32 (.fin false ca qa) + FP.Core.zval FP.Core.b32 (.fin false cb qb) = ((FP.Core.unitsOf FP.Core.b32 h + FP.Core.unitsOf FP.Core.b32 (127 * 8388608) : Nat) : Int) := by
    unfold FP.Core.zval
    rw [x3, y3]
    show ((FP.Core.unitsOf FP.Core.b32 h : Nat) : Int) + ((FP.Core.unitsOf FP.Core.b32 (127 * 8388608) : Nat) : Int) = _
    omega
  rw [hz] at p3
  have u1 := fp_st (K := 127) (by decide)
  have hp : 0 < FP.Core.unitsOf FP.Core.b32 (127 * 8388608) := by rw [u1]; decide
  have hsg : sg = false := by
    cases sg with
    | false => rfl
    | true =>
      exfalso
      have p3' : -((FP.Core.inUnits n e FP.Core.b32.qmin : Nat) : Int) = ((FP.Core.unitsOf FP.Core.b32 h + FP.Core.unitsOf FP.Core.b32 (127 * 8388608) : Nat) : Int) := p3
      omega
  subst hsg
  have p3 : ((FP.Core.inUnits n e FP.Core.b32.qmin : Nat) : Int) = ((FP.Core.unitsOf FP.Core.b32 h + FP.Core.unitsOf FP.Core.b32 (127 * 8388608) : Nat) : Int) := p3
  have p3 : FP.Core.inUnits n e FP.Core.b32.qmin = FP.Core.unitsOf FP.Core.b32 h + FP.Core.unitsOf FP.Core.b32 (127 * 8388608) := by omega
  have hd : FP.Core.decode FP.Core.b32 (hta_f h) = FP.Core.roundRatio FP.Core.b32 false n 1 e := by
    have h1 := FP.Core.val32_fadd (nI h).toUInt32 (nI (127 * 8388608)).toUInt32
    unfold FP.Core.val32 at h1
    rw [u_toNat (by omega), u_toNat (by decide), x1, y1, p1] at h1
    exact h1
  have hm := fp_pos (n := hta_f h) (u := FP.fadd (nI h).toUInt32 FP.fconst1) rfl hd
  have up := FP.Core.mag_le FP.Core.good_b32 (m := (129 + c) * 8388608) hd (by decide) (e0 := FP.Core.b32.qmin) (Int.le_refl _) p2 (by
    rw [p3, Int.sub_self, Int.toNat_zero, Nat.pow_zero, Nat.mul_one, Nat.mul_one, fp_st (K := 129 + c) (by omega), u1]
    have a1 := (FP.Core.unitsOf_le_iff (f := FP.Core.b32)).mpr h2
    rw [fp_st (K := 128 + c) (by omega)] at a1
    have a2 : 2 ^ (127 - 1) ≤ 2 ^ (128 + c - 1) := Nat.pow_le_pow_right (by decide) (by omega)
    have a3 : 2 ^ (129 + c - 1) = 2 ^ (128 + c - 1) * 2 := by rw [← Nat.pow_succ]; exact congrArg (2 ^ ·) (by omega)
    rw [a3]
    have key : ∀ X Y Z : Nat, Z ≤ 8388608 * X → Y ≤ X → Z + 8388608 * Y ≤ 8388608 * (X * 2) := by
      intro X Y Z p q
      omega
    exact key _ _ _ a1 a2)
  have lo := FP.Core.mag_ge FP.Core.good_b32 (m := 127 * 8388608) hd (by decide) (e0 := FP.Core.b32.qmin) (Int.le_refl _) p2 (by rw [FP.Core.infBits_b32]; decide) (by
    rw [p3, Int.sub_self, Int.toNat_zero, Nat.pow_zero, Nat.mul_one, Nat.mul_one]
    exact Nat.le_add_left _ _)
  rw [hm] at up lo
  refine Or.inr ⟨?_, ?_⟩
  · exact Nat.le_trans (Nat.mul_le_mul_right _ (by omega)) lo
  · rw [show 128 + (c + 1) = 129 + c by omega]
    exact up
theorem htm_0 : htm_f 0 = 0 := by decide +kernel
theorem HT_w {c h : Nat} (hc : c ≤ 100) (hh : HT c h) : HT (c + 1) (hta_f (htm_f h)) := by
  obtain ⟨a, b⟩ := HT_fm hc hh
  refine HT_fa hc a ?_
  rcases hh with e | e <;> omega
/-- a whole number as a float -/
theorem fp_i2f {b : Nat} (hb : b < 2147483648) : FP.Core.decode FP.Core.b32 (FP.i2f (nI b)).toNat = FP.Core.roundRatio FP.Core.b32 false b 1 0 ∧ (FP.i2f (nI b)).toNat < 160 * 8388608 ∧ (1 ≤ b → 127 * 8388608 ≤ (FP.i2f (nI b)).toNat) := by
  have hi : (nI b).toInt = (b : Int) := Int32.toInt_ofNat_of_lt (by omega)
  have hd : FP.Core.decode FP.Core.b32 (FP.i2f (nI b)).toNat = FP.Core.roundRatio FP.Core.b32 false b 1 0 := by
    have h1 := FP.Core.val32_i2f (nI b)
    rw [hi] at h1
    unfold FP.Core.ofInt at h1
    rw [decide_eq_false (by omega), Int.natAbs_natCast] at h1
    exact h1
  have hm := fp_pos (n := (FP.i2f (nI b)).toNat) (u := FP.i2f (nI b)) rfl hd
  rw [FP.Core.mag_toNat32] at hm
  have h2 := FP.Core.i2f_mag (nI b)
  refine ⟨hd, ?_, fun h1 => ?_⟩
  · have : (FP.i2f (nI b)).toNat % 2 ^ 31 < 160 * 2 ^ 23 := h2
    omega
  · have h3 := (FP.Core.i2f_big (v := nI b) (by rw [hi]; omega)).1
    have : 127 * 2 ^ 23 ≤ (FP.i2f (nI b)).toNat % 2 ^ 31 := h3
    omega
/-- two whole numbers, divided -/
theorem fdiv_HT {a b : Nat} (ha : a ≤ 3200) (hb : 1 ≤ b ∧ b ≤ 1000000) : HT 100 (FP.fdiv (FP.i2f (nI a)) (FP.i2f (nI b))).toNat := by
  obtain ⟨da, a1, a2⟩ := fp_i2f (b := a) (by omega)
  obtain ⟨db, b1, b2⟩ := fp_i2f (b := b) (by omega)
  have b2 := b2 hb.1
  obtain ⟨c, q, x1, x2, x3⟩ := fp_fin (h := (FP.i2f (nI a)).toNat) (by omega)
  obtain ⟨d, r, y1, y2, y3⟩ := fp_fin (h := (FP.i2f (nI b)).toNat) (by omega)
  have yl : 8388608 * 2 ^ 126 ≤ FP.Core.zmag FP.Core.b32 (.fin false d r) := by
    rw [y3]
    have := (FP.Core.unitsOf_le_iff (f := FP.Core.b32)).mpr b2
    rw [fp_st (by decide)] at this
    exact this
  have yu : FP.Core.zmag FP.Core.b32 (.fin false d r) ≤ 8388608 * 2 ^ 159 := by
    rw [y3]
    have := (FP.Core.unitsOf_le_iff (f := FP.Core.b32)).mpr (Nat.le_of_lt b1)
    rw [fp_st (by decide)] at this
    exact this
  have xu : FP.Core.zmag FP.Core.b32 (.fin false c q) ≤ 8388608 * 2 ^ 159 := by
    rw [x3]
    have := (FP.Core.unitsOf_le_iff (f := FP.Core.b32)).mpr (Nat.le_of_lt a1)
    rw [fp_st (by decide)] at this
    exact this
  have hd0 : d ≠ 0 := by
    intro y
    subst y
    have h1 : FP.Core.zmag FP.Core.b32 (.fin false 0 r) = 0 := Nat.zero_mul _
    rw [h1] at yl
    exact absurd yl (by decide +kernel)
  have hd : FP.Core.decode FP.Core.b32 (FP.fdiv (FP.i2f (nI a)) (FP.i2f (nI b))).toNat = FP.Core.roundRatio FP.Core.b32 false c d (q - r) := by
    have h1 := FP.Core.val32_fdiv (FP.i2f (nI a)) (FP.i2f (nI b))
    unfold FP.Core.val32 at h1
    rw [x1, y1] at h1
    simp only [FP.Core.quotient, if_neg hd0] at h1
    exact h1
  have hm := fp_pos (n := (FP.fdiv (FP.i2f (nI a)) (FP.i2f (nI b))).toNat) (u := FP.fdiv (FP.i2f (nI a)) (FP.i2f (nI b))) rfl hd
  by_cases a0 : a = 0
  · refine Or.inl ?_
    have hc : c = 0 := by
      rw [a0] at da
      have e0 : FP.Core.roundRatio FP.Core.b32 false 0 1 0 = .fin false 0 FP.Core.b32.qmin := rfl
      rw [e0] at da
      rw [a0, da] at x1
      exact (FP.Core.Datum.fin.inj x1).2.1.symm
    rw [hc] at hd
    have hz : FP.Core.FZero (FP.fdiv (FP.i2f (nI a)) (FP.i2f (nI b))) := ⟨false, FP.Core.b32.qmin, hd⟩
    have := (FP.Core.zero_bits232 _).mp hz
    rw [FP.Core.mag_toNat32] at hm
    omega
  · have xl : 8388608 * 2 ^ 126 ≤ FP.Core.zmag FP.Core.b32 (.fin false c q) := by
      rw [x3]
      have := (FP.Core.unitsOf_le_iff (f := FP.Core.b32)).mpr (a2 (by omega))
      rw [fp_st (by decide)] at this
      exact this
    have hx1 := x2.2.1
    have hy1 := y2.2.1
    have hq := FP.Core.qmin_b32
    have e1 : FP.Core.inUnits c (q - r) (2 * FP.Core.b32.qmin - r) = FP.Core.zmag FP.Core.b32 (.fin false c q) * 2 ^ 149 := by
      show c * _ = c * _ * _
      rw [Nat.mul_assoc, ← Nat.pow_add]
      congr 2
      omega
    have e2 : 2 ^ (FP.Core.b32.qmin - (2 * FP.Core.b32.qmin - r)).toNat * d = FP.Core.zmag FP.Core.b32 (.fin false d r) := by
      show _ = d * _
      rw [Nat.mul_comm]
      congr 2
      omega
    have up := FP.Core.mag_le FP.Core.good_b32 (m := 228 * 8388608) hd (by omega) (e0 := 2 * FP.Core.b32.qmin - r) (by omega) (by omega) (by
      rw [e1, Nat.mul_assoc, e2, fp_st (by decide)]
      refine Nat.le_trans (Nat.mul_le_mul_right _ xu) (Nat.le_trans ?_ (Nat.mul_le_mul_left _ yl))
      decide +kernel)
    have lo := FP.Core.mag_ge FP.Core.good_b32 (m := 27 * 8388608) hd (by omega) (e0 := 2 * FP.Core.b32.qmin - r) (by omega) (by omega) (by rw [FP.Core.infBits_b32]; decide) (by
      rw [e1, Nat.mul_assoc, e2, fp_st (by decide)]
      refine Nat.le_trans (Nat.mul_le_mul_left _ yu) (Nat.le_trans ?_ (Nat.mul_le_mul_right _ xl))
      decide +kernel)
    rw [hm] at up lo
    exact Or.inr ⟨by omega, by omega⟩
theorem fp_ltT {a b : Nat} (hb : b ≤ 2139095040) (h : a < b) (op : CmpOp) : (Op.cmpValue (FP.fcmp (nI a).toUInt32 (nI b).toUInt32) op < nI 0) = True := by
  rw [fp_lt hb h]
  exact eq_true (by decide)
theorem fp_ltF {a b : Nat} (ha : a ≤ 2139095040) (h : b ≤ a) (op : CmpOp) : (Op.cmpValue (FP.fcmp (nI a).toUInt32 (nI b).toUInt32) op < nI 0) = False := by
  by_cases e : a = b
  · subst e
    rw [fp_eq ha]
    exact eq_false (by decide)
  · rw [fp_gt ha (by omega)]
    exact eq_false (by decide)
theorem fp_geT {a b : Nat} (ha : a ≤ 2139095040) (h : b ≤ a) (op : CmpOp) : (nI 0 ≤ Op.cmpValue (FP.fcmp (nI a).toUInt32 (nI b).toUInt32) op) = True := by
  by_cases e : a = b
  · subst e
    rw [fp_eq ha]
    exact eq_true (by decide)
  · rw [fp_gt ha (by omega)]
    exact eq_true (by decide)
theorem fp_geF {a b : Nat} (hb : b ≤ 2139095040) (h : a < b) (op : CmpOp) : (nI 0 ≤ Op.cmpValue (FP.fcmp (nI a).toUInt32 (nI b).toUInt32) op) = False := by
  rw [fp_lt hb h]
  exact eq_false (by decide)
theorem nI_m1 (a : Nat) : nI (a + 1) + -nI 1 = nI a := by
  rw [← nI_add, Int32.add_assoc, Int32.add_right_neg, Int32.add_zero]
theorem fp_shk {a k : Nat} (hk : k < 31) (ha : a * 2 ^ k < 4294967296) : nI a <<< (nI k &&& nI 31) = nI (a * 2 ^ k) := by
  rw [q_31 (by omega), pk_shlN (nI k) k (q_sm k (by omega)) (by omega)]
theorem fp_shl {a : Nat} (ha : a * 2 ^ 23 < 4294967296) : nI a <<< (nI 23 &&& nI 31) = nI (a * 8388608) := fp_shk (k := 23) (by decide) ha
/-- the bits of HEAT -/
theorem c_floatBits {h : Nat} (hh : HT 100 h) : f_X11_floatBits (nI h).toUInt32 = some (nI h) := by
  have z0 : FP.fconst0 = (nI 0).toUInt32 := rfl
  have z1 : FP.fconst1 = (nI 1065353216).toUInt32 := rfl
  have z2 : FP.fconst2 = (nI 1073741824).toUInt32 := rfl
  rcases hh with rfl | ⟨h1, h2⟩
  · unfold f_X11_floatBits
    rw [z0, fp_eq (by decide), if_neg (by decide)]
    rfl
  · have l1 : 27 * 8388608 ≤ h := h1
    have l2 : h ≤ 228 * 8388608 := h2
    obtain ⟨E, T, hE, e1, e2, e3⟩ := fp_ET (h := h) (by omega) (by omega)
    have hE27 : 27 ≤ E := by omega
    have hE228 : E ≤ 228 := by omega
    unfold f_X11_floatBits
    rw [z0, fp_gt (by omega) (by omega), if_pos (by decide)]
    refine (zb2_of (zl3_fo (fun i => (nI (h - i * 8388608)).toUInt32) (fun i => nI (127 + i)) (fun i => nI i) (E - 127) ((nI (h - (E - 127) * 8388608)).toUInt32, nI (127 + (E - 127))) (fu_lt (by omega)) (by show (nI h).toUInt32 = (nI (h - 0 * 8388608)).toUInt32; rw [Nat.zero_mul, Nat.sub_zero]) rfl rfl (fun i hi => ?_) ?_)).trans ?_
    · have hB : (Op.cmpValue (FP.fcmp (nI (h - i * 8388608)).toUInt32 FP.fconst2) .l < nI 0) = False := by
        rw [z2]
        exact fp_ltF (by omega) (by omega) _
      have hdv : FP.fdiv (nI (h - i * 8388608)).toUInt32 FP.fconst2 = (nI (h - (i + 1) * 8388608)).toUInt32 := by
        rw [fp_d2 (by omega) (by omega)]
        exact congrArg (fun n => (nI n).toUInt32) (by omega)
      have hg : h - (i + 1) * 8388608 ≤ 2139095040 := by omega
      simp (maxSteps := 3000000) (disch := omega) only [↓nx_q, zb0_s, zb1_s, zb2_s, zb3_s, zb4_s, zb5_s, zb6_s, zb7_s, zb8_s, zb9_s, zb10_s, zb11_s, zb12_s, zb13_s, zb14_s, q_lit, nI_add, pk_mul, e_cl, gi_in, gz_n0, gz_n1, e_gz, si_eq, si_ne, sa_eq, sa_ne, if_true, if_false, ↓reduceIte, k_ltT, k_ltF, k_leT, k_leF, k_eqT, k_eqF, k_m1lt, k_nm1, not_true_eq_false, not_false_eq_true, hB, hdv, gq_n hg]
      try rfl
    · have hB : (Op.cmpValue (FP.fcmp (nI (h - (E - 127) * 8388608)).toUInt32 FP.fconst2) .l < nI 0) = True := by
        rw [z2]
        exact fp_ltT (by decide) (by omega) _
      simp (maxSteps := 3000000) (disch := omega) only [↓nx_q, zb0_s, zb1_s, zb2_s, zb3_s, zb4_s, zb5_s, zb6_s, zb7_s, zb8_s, zb9_s, zb10_s, zb11_s, zb12_s, zb13_s, zb14_s, q_lit, nI_add, pk_mul, e_cl, gi_in, gz_n0, gz_n1, e_gz, si_eq, si_ne, sa_eq, sa_ne, if_true, if_false, ↓reduceIte, k_ltT, k_ltF, k_leT, k_leF, k_eqT, k_eqF, k_m1lt, k_nm1, not_true_eq_false, not_false_eq_true, hB]
    · refine (zb2_of (zl3_fo (fun i => (nI (h - (E - 127) * 8388608 + i * 8388608)).toUInt32) (fun i => nI (127 + (E - 127) - i)) (fun i => nI i) (127 - E) ((nI (127 * 8388608 + T)).toUInt32, nI E) (fu_lt (by omega)) (by show (nI (h - (E - 127) * 8388608)).toUInt32 = (nI (h - (E - 127) * 8388608 + 0 * 8388608)).toUInt32; rw [Nat.zero_mul, Nat.add_zero]) rfl rfl (fun i hi => ?_) ?_)).trans ?_
      · have hB : (nI 0 ≤ Op.cmpValue (FP.fcmp (nI (h - (E - 127) * 8388608 + i * 8388608)).toUInt32 FP.fconst1) .g) = False := by
          rw [z1]
          exact fp_geF (by decide) (by omega) _
        have hmu : FP.fmul (nI (h - (E - 127) * 8388608 + i * 8388608)).toUInt32 FP.fconst2 = (nI (h - (E - 127) * 8388608 + (i + 1) * 8388608)).toUInt32 := by
          rw [fp_x2 (by omega) (by omega)]
          exact congrArg (fun n => (nI n).toUInt32) (by omega)
        have hg : h - (E - 127) * 8388608 + (i + 1) * 8388608 ≤ 2139095040 := by omega
        have hx : nI (127 + (E - 127) - i) + -nI 1 = nI (127 + (E - 127) - (i + 1)) := by
          have : 127 + (E - 127) - i = 127 + (E - 127) - (i + 1) + 1 := by omega
          rw [this, nI_m1]
        simp (maxSteps := 3000000) (disch := omega) only [↓nx_q, zb0_s, zb1_s, zb2_s, zb3_s, zb4_s, zb5_s, zb6_s, zb7_s, zb8_s, zb9_s, zb10_s, zb11_s, zb12_s, zb13_s, zb14_s, q_lit, nI_add, pk_mul, e_cl, gi_in, gz_n0, gz_n1, e_gz, si_eq, si_ne, sa_eq, sa_ne, if_true, if_false, ↓reduceIte, k_ltT, k_ltF, k_leT, k_leF, k_eqT, k_eqF, k_m1lt, k_nm1, not_true_eq_false, not_false_eq_true, hB, hmu, gq_n hg, hx]
      · have hu : h - (E - 127) * 8388608 + (127 - E) * 8388608 = 127 * 8388608 + T := by omega
        have hB : (nI 0 ≤ Op.cmpValue (FP.fcmp (nI (127 * 8388608 + T)).toUInt32 FP.fconst1) .g) = True := by
          rw [z1]
          exact fp_geT (by omega) (by omega) _
        have hx : 127 + (E - 127) - (127 - E) = E := by omega
        simp (maxSteps := 3000000) (disch := omega) only [hu, hx, ↓nx_q, zb0_s, zb1_s, zb2_s, zb3_s, zb4_s, zb5_s, zb6_s, zb7_s, zb8_s, zb9_s, zb10_s, zb11_s, zb12_s, zb13_s, zb14_s, q_lit, nI_add, pk_mul, e_cl, gi_in, gz_n0, gz_n1, e_gz, si_eq, si_ne, sa_eq, sa_ne, if_true, if_false, ↓reduceIte, k_ltT, k_ltF, k_leT, k_leF, k_eqT, k_eqF, k_m1lt, k_nm1, not_true_eq_false, not_false_eq_true, hB]
      · have hg : 150 * 8388608 + T ≤ 2139095040 := by omega
        have hs := fp_shl (a := E) (by omega)
        have ef : FP.f2i (nI (150 * 8388608 + T)).toUInt32 = nI (8388608 + T) := fp_f2i e3
        rw [fp_x23 e3, gq_n hg, ef]
        simp (maxSteps := 3000000) (disch := omega) only [↓nx_q, zb0_s, zb1_s, zb2_s, zb3_s, zb4_s, zb5_s, zb6_s, zb7_s, zb8_s, zb9_s, zb10_s, zb11_s, zb12_s, zb13_s, zb14_s, q_lit, nI_add, pk_mul, e_cl, gi_in, gz_n0, gz_n1, e_gz, si_eq, si_ne, sa_eq, sa_ne, if_true, if_false, ↓reduceIte, k_ltT, k_ltF, k_leT, k_leF, k_eqT, k_eqF, k_m1lt, k_nm1, not_true_eq_false, not_false_eq_true, hs, e_sub]
        exact congrArg (fun n => some (nI n)) (by omega)
