/-- the planner as it is behind n REQUESTS -/
def FI (kp : Bool) (p : Ob) (σ : Nat → Nat) (room al n : Nat) : Prop := PT p σ room ∧ p 7 0 = nI n ∧ (p 0 0 = if kp then nI 1 else nI 0) ∧ ∀ m, m ≤ n → (kp = true ∨ m = n) → CR σ room (p 1) (rix kp m) (rowN σ room al m)
def ntK (kp : Bool) : Nat := if kp then 10496 else 512
theorem rix_le {kp : Bool} {n : Nat} (hn : n ≤ 40) : rix kp n + 256 ≤ ntK kp := by
  unfold rix ntK
  cases kp
  · rw [if_neg (by decide), if_neg (by decide)]
    omega
  · rw [if_pos rfl, if_pos rfl]
    omega
theorem rix_ne {kp : Bool} {n : Nat} : rix kp n + 256 ≤ rix kp (n + 1) ∨ rix kp (n + 1) + 256 ≤ rix kp n := by
  unfold rix
  cases kp
  · rw [if_neg (by decide), if_neg (by decide)]
    omega
  · rw [if_pos rfl, if_pos rfl]
    omega
theorem rix_old {kp : Bool} {m n s : Nat} (hk : kp = true) (hm : m ≤ n) (hs : s < 256) : rix kp m + s < rix kp (n + 1) := by
  subst hk
  unfold rix
  rw [if_pos rfl, if_pos rfl]
  omega
theorem ntK_lt (kp : Bool) : ntK kp < 1000000 := by cases kp <;> decide
theorem ntK_ge (kp : Bool) : 256 ≤ ntK kp := by cases kp <;> decide
theorem c_follow {kp : Bool} {p w s l : Ob} {σ : Nat → Nat} {room al : Nat} {v3 : Int32} {n0 : Nat} (hw : RCw w σ) (hsh : s 1 0 = nI (σ 1)) (hl : RCl l σ) (hW : WF σ) (hr : room ≤ 20) (ha : (v3 = -1 ∧ al = 0) ∨ (∃ k, k < 8 ∧ v3 = nI k ∧ al = 2 ^ k)) (h0 : p 0 0 = if kp then nI 1 else nI 0) (hp : p 7 0 = -nI 1 ∨ (n0 ≤ σ 7 ∧ FI kp p σ room al n0)) : Ok (f_X5_follow (ntK kp) p w s l (nI room) v3) (fun p' => FI kp p' σ room al (σ 7) ∧ p' 8 = p 8 ∧ (p 7 0 ≠ -nI 1 → p' 9 = p 9)) := by
  have h8 := hW.1.1
  have h7 := hW.2.2.1
  have hwi := hW.1.2.2.2.2.1
  have h1 := hW.2.1
  have hlog : ∀ i, i < σ 7 → σ (104 + i) < σ 2 := fun i hi => (hW.2.2.2.2.2.2 i hi).1
  have hal : al < 256 := by
    rcases ha with h | ⟨k, hk, _, h⟩
    · omega
    · rw [h]; exact Nat.lt_of_lt_of_le (pw_lt hk) (pw8 (Nat.le_refl 8))
  unfold f_X5_follow
  refine ok_nxg (fun K5 hK => ?_)
  have hB : ∀ q n1, n1 ≤ σ 7 → FI kp q σ room al n1 → Ok (K5 q) (fun p' => FI kp p' σ room al (σ 7) ∧ p' 8 = q 8 ∧ p' 9 = q 9) := by
    intro q n1 hn1 hq
    rw [hK]
    have key : ∀ (y : Int32), y = nI al → Ok ((fun (j7 : Int32) => nx (q 7 0) fun x9 => zb1 (zl2 (fun (o52 : Ob) (k53 : Int32) => (
  if l 0 0 ≤ k53 then (
  some (.inr o52)
  ) else (
  gi k53 40 <|
  nx (l 1 (Int32.toNatClampNeg k53)) fun x58 =>
  nx (fun (j66 : Int32) => (
  zb1 (f_X5_row o52 k53) fun (r68 : Int32) =>
  zb1 (f_X5_row o52 (k53 + (1 : Int32))) fun (r70 : Int32) =>
  zb1 (f_X5_moveAny (ntK kp) o52 r68 r70) fun (o72 : Ob) =>
  zb1 (f_X5_row o72 (k53 + (1 : Int32))) fun (r74 : Int32) =>
  nx (fun (j78 : Int32) => (
  zb1 (f_X5_pay (ntK kp) o72 r74 ((1 : Int32) <<< (x58 &&& 31)) j78 j7) fun (o80 : Ob) =>
  nx (si o80 7 (k53 + (1 : Int32))) fun o82 =>
  nx (k53 + (1 : Int32)) fun x83 =>
  some (.inl (o82, x83))
  )) fun K79 =>
  if j66 = 0 then (
  gi x58 8 <|
  K79 (w 3 (Int32.toNatClampNeg x58))
  ) else (
  K79 (1000000 : Int32)
  )
  )) fun K67 =>
  nx (fun (_ : Unit) => (
  K67 (0 : Int32)
  )) fun K62 =>
  if s 1 0 = 0 then (
  gi x58 8 <|
  if nI room < w 1 (Int32.toNatClampNeg x58) then (
  K62 ()
  ) else (
  K67 (1 : Int32)
  )
  ) else (
  K62 ()
  )
  )
  )) FU q x9) <| fun (o54 : Ob) => some o54) y) (fun p' => FI kp p' σ room al (σ 7) ∧ p' 8 = q 8 ∧ p' 9 = q 9) := by
      intro y hy
      subst hy
      dsimp only
      rw [nx_eq, hq.2.1, ok_zb1]
      refine ok_mono (ok_zl2 (Q := fun p' => FI kp p' σ room al (σ 7) ∧ p' 8 = q 8 ∧ p' 9 = q 9) (fun i o kk => kk = nI (n1 + i) ∧ FI kp o σ room al (n1 + i) ∧ o 8 = q 8 ∧ o 9 = q 9) (σ 7 - n1) (fun i o kk hi hI => ?_) (fu_lt (by omega)) ⟨rfl, hq, rfl, rfl⟩) (fun y hy => ok_some.mpr hy)
      obtain ⟨rfl, ⟨f1, f2, f3, f4⟩, f8, f9⟩ := hI
      have l0 := hl.1
      by_cases z : i = σ 7 - n1
      · have e : n1 + i = σ 7 := by omega
        rw [e] at f2 f4 ⊢
        simp (maxSteps := 3000000) (disch := omega) only [↓nx_q, zb0_s, zb1_s, zb2_s, zb3_s, zb4_s, zb5_s, zb6_s, zb7_s, zb8_s, zb9_s, zb10_s, zb11_s, zb12_s, zb13_s, zb14_s, q_lit, nI_add, pk_mul, e_cl, gi_in, gz_n0, gz_n1, e_gz, si_eq, si_ne, sa_eq, sa_ne, if_true, if_false, ↓reduceIte, k_ltT, k_ltF, k_leT, k_leF, k_eqT, k_eqF, k_m1lt, k_nm1, not_true_eq_false, not_false_eq_true, l0]
        exact ⟨_, rfl, ⟨f1, f2, f3, f4⟩, f8, f9⟩
      · generalize hn : n1 + i = n at *
        have hn40 : n < σ 7 := by omega
        have hli := (hl.2 n hn40).1
        have hk := hlog n hn40
        have wk := hw.2 (σ (104 + n)) hk
        have hik := hwi (σ (104 + n)) hk
        have r1 := c_row f3 (show n ≤ 41 by omega)
        have r2 := c_row f3 (show n + 1 ≤ 41 by omega)
        have hle : ∀ x, rowN σ room al n x ≤ 1000000 := fun x => by
          rcases row_bd h8 hwi room al n (fun i h => hlog i (by omega)) x with h | h <;> omega
        obtain ⟨p2, e2, hc2, hf2⟩ := c_moveAny f1 h8 hwi (f4 n (Nat.le_refl _) (Or.inr rfl)) hle (rix_ne (kp := kp) (n := n)) (rix_le (show n ≤ 40 by omega)) (rix_le (show n + 1 ≤ 40 by omega)) (ntK_lt kp)
        have f3' : p2 0 0 = if kp then nI 1 else nI 0 := by rw [hf2.2 0 (by decide)]; exact f3
        have r3 := c_row f3' (show n + 1 ≤ 41 by omega)
        have hrent : (if σ 1 = 0 ∧ σ (8 + σ (104 + n)) ≤ room then 1000000 else σ (24 + σ (104 + n))) ≤ 1000000 := by split <;> omega
        obtain ⟨p3, e3, hc3, hf3⟩ := c_pay (k := σ (104 + n)) (rent := if σ 1 = 0 ∧ σ (8 + σ (104 + n)) ≤ room then 1000000 else σ (24 + σ (104 + n))) (al := al) (RwF_PT hf2 f1) h8 hc2 (upI_le (dnI_le hle (σ 2)) (σ 2)) (by omega) hrent hal (rix_le (show n + 1 ≤ 40 by omega)) (ntK_lt kp)
        have fin : Lp (fun (y : Ob × Int32) => i < σ 7 - n1 ∧ y.2 = nI (n1 + (i + 1)) ∧ FI kp y.1 σ room al (n1 + (i + 1)) ∧ y.1 8 = q 8 ∧ y.1 9 = q 9) (fun (p' : Ob) => FI kp p' σ room al (σ 7) ∧ p' 8 = q 8 ∧ p' 9 = q 9) (Sum.inl (si p3 7 (nI (n + 1)), nI (n + 1))) := by
          have e : n1 + (i + 1) = n + 1 := by omega
          rw [e]
          refine ⟨by omega, rfl, ⟨PT_fr (RwF_PT hf3 (RwF_PT hf2 f1)) (fun j a b _ _ => si_ne b), (by show si p3 7 (nI (n + 1)) 7 0 = _; exact si_eq _ _ _ _), ?_, fun m hm hkm x hx hxf => ?_⟩, ?_, ?_⟩
          · show si p3 7 (nI (n + 1)) 0 0 = _
            rw [si_ne (by decide), hf3.2 0 (by decide)]
            exact f3'
          · show si p3 7 (nI (n + 1)) 1 _ = _
            rw [si_ne (by decide)]
            by_cases em : m = n + 1
            · subst em
              rw [hc3 x hx hxf, row_eq h8 hwi (fun i h => hlog i (by omega)) (by omega) hx hxf]
            · have hkp : kp = true := by
                rcases hkm with h | h
                · exact h
                · exact absurd h em
              have hlt := rix_old (m := m) (n := n) (s := x) hkp (by omega) (Nat.lt_of_lt_of_le hx (pw8 h8))
              rw [hf3.1 _ (Or.inl hlt), hf2.1 _ (Or.inl hlt)]
              exact f4 m (by omega) (Or.inl hkp) x hx hxf
          · show si p3 7 (nI (n + 1)) 8 = _
            rw [si_ne (by decide), hf3.2 8 (by decide), hf2.2 8 (by decide)]
            exact f8
          · show si p3 7 (nI (n + 1)) 9 = _
            rw [si_ne (by decide), hf3.2 9 (by decide), hf2.2 9 (by decide)]
            exact f9
        by_cases m0 : σ 1 = 0
        · by_cases m1 : σ (8 + σ (104 + n)) ≤ room
          · rw [if_pos ⟨m0, m1⟩] at e3
            simp (maxSteps := 3000000) (disch := omega) only [↓nx_q, zb0_s, zb1_s, zb2_s, zb3_s, zb4_s, zb5_s, zb6_s, zb7_s, zb8_s, zb9_s, zb10_s, zb11_s, zb12_s, zb13_s, zb14_s, q_lit, nI_add, pk_mul, e_cl, gi_in, gz_n0, gz_n1, e_gz, si_eq, si_ne, sa_eq, sa_ne, if_true, if_false, ↓reduceIte, k_ltT, k_ltF, k_leT, k_leF, k_eqT, k_eqF, k_m1lt, k_nm1, not_true_eq_false, not_false_eq_true, l0, hli, hsh, wk.1, wk.2.2.1, r1, r2, e2, r3, e_shl1, e3]
            exact ⟨_, rfl, fin⟩
          · rw [if_neg (fun z => m1 z.2)] at e3
            simp (maxSteps := 3000000) (disch := omega) only [↓nx_q, zb0_s, zb1_s, zb2_s, zb3_s, zb4_s, zb5_s, zb6_s, zb7_s, zb8_s, zb9_s, zb10_s, zb11_s, zb12_s, zb13_s, zb14_s, q_lit, nI_add, pk_mul, e_cl, gi_in, gz_n0, gz_n1, e_gz, si_eq, si_ne, sa_eq, sa_ne, if_true, if_false, ↓reduceIte, k_ltT, k_ltF, k_leT, k_leF, k_eqT, k_eqF, k_m1lt, k_nm1, not_true_eq_false, not_false_eq_true, l0, hli, hsh, wk.1, wk.2.2.1, r1, r2, e2, r3, e_shl1, e3]
            exact ⟨_, rfl, fin⟩
        · rw [if_neg (fun z => m0 z.1)] at e3
          simp (maxSteps := 3000000) (disch := omega) only [↓nx_q, zb0_s, zb1_s, zb2_s, zb3_s, zb4_s, zb5_s, zb6_s, zb7_s, zb8_s, zb9_s, zb10_s, zb11_s, zb12_s, zb13_s, zb14_s, q_lit, nI_add, pk_mul, e_cl, gi_in, gz_n0, gz_n1, e_gz, si_eq, si_ne, sa_eq, sa_ne, if_true, if_false, ↓reduceIte, k_ltT, k_ltF, k_leT, k_leF, k_eqT, k_eqF, k_m1lt, k_nm1, not_true_eq_false, not_false_eq_true, l0, hli, hsh, wk.1, wk.2.2.1, r1, r2, e2, r3, e_shl1, e3]
          exact ⟨_, rfl, fin⟩
    rcases ha with ⟨h, h'⟩ | ⟨k, hk, h, h'⟩
    · subst h h'
      exact key _ rfl
    · subst h
      have hne : ¬ nI k = (-1 : Int32) := of_eq_false (k_nm1 (p := k) (by omega))
      show Ok (if nI k = (-1 : Int32) then _ else _) _
      rw [if_neg hne]
      refine key _ ?_
      rw [h', show (31 : Int32) = nI 31 from rfl, show (1 : Int32) = nI 1 from rfl, e_shl1 (by omega)]
  by_cases q : p 7 0 = -nI 1
  · rw [if_pos (show p 7 0 = -1 from q), ok_zb1]
    refine ok_mono (c_plBegin al hw h8 hwi hr (ntK_ge kp) (ntK_lt kp)) (fun p1 hp1 => ?_)
    obtain ⟨b1, b2, b3, b4, b5⟩ := hp1
    refine ok_mono (hB p1 0 (Nat.zero_le _) ⟨b1, b2, by rw [b3]; exact h0, fun m hm _ => ?_⟩) (fun y hy => ⟨hy.1, by rw [hy.2.1, b4], fun z => absurd q z⟩)
    have : m = 0 := by omega
    subst this
    have e0 : rix kp 0 = 0 := by cases kp <;> rfl
    rw [e0]
    exact b5
  · rw [if_neg (show ¬ p 7 0 = -1 from q)]
    obtain ⟨hn, hF⟩ := hp.resolve_left q
    exact ok_mono (hB p n0 hn hF) (fun y hy => ⟨hy.1, hy.2.1, fun _ => hy.2.2⟩)
