/-! ===== a REQUEST with LOG and BOOKS, both sides ===== -/
def CS (o w s l b0 b1 b2 g : Ob) (σ : Nat → Nat) (x : PQ) : Prop := o 4 0 = nI (x.1 4) ∧ CP o b0 b1 b2 g x ∧ RCw w σ ∧ RCh s σ ∧ RCl l σ
/-- what stays when the LOG grows -/
def Grow (σ σ' : Nat → Nat) : Prop := σ 7 ≤ σ' 7 ∧ (∀ j, j < 3 ∨ (8 ≤ j ∧ j < 32) ∨ (56 ≤ j ∧ j < 104) → σ' j = σ j) ∧ ∀ i, i < σ 7 → σ' (104 + i) = σ (104 + i)
theorem Grow_refl (σ : Nat → Nat) : Grow σ σ := ⟨Nat.le_refl _, fun _ _ => rfl, fun _ _ => rfl⟩
theorem Grow_trans {σ σ' σ'' : Nat → Nat} (h : Grow σ σ') (g : Grow σ' σ'') : Grow σ σ'' := ⟨Nat.le_trans h.1 g.1, fun j hj => (g.2.1 j hj).trans (h.2.1 j hj), fun i hi => (g.2.2 i (Nat.lt_of_lt_of_le hi h.1)).trans (h.2.2 i hi)⟩
theorem ask_both {σ : Nat → Nat} {k : Nat} (hw : WF σ) (h7 : σ 7 < 40) (hk : k < σ 2) : ∃ (σ' : Nat → Nat) (D : DL) (v : Nat), WF σ' ∧ Grow σ σ' ∧ σ' 7 = σ 7 + 1 ∧ v ≤ 80
    ∧ (∀ (o w s l b0 b1 b2 d g : Ob) (x : PQ), CS o w s l b0 b1 b2 g σ x → Ok (f_X9_ask o w s l b0 b1 b2 d g (nI k)) (fun p => CS p.1 w p.2.1 p.2.2.1 p.2.2.2.1 p.2.2.2.2.1 p.2.2.2.2.2.1 p.2.2.2.2.2.2.2.1 σ' (D.foldl pst x) ∧ p.2.2.2.2.2.2.2.2 = nI v))
    ∧ (∀ (M : Ob) (x : PQ), MS M σ x → Ok (f_X12_logs M (nI k)) (fun p => MS p.1 σ' (D.foldl pst x) ∧ FrM M p.1 ∧ p.2 = nI v)) := by
  obtain ⟨w1, w2, w3, w4, w5, w6, w7⟩ := hw
  obtain ⟨τ, D, hv, hh, hq, hf, hp, hdk, hdl, hC, hM⟩ := serve_both (c := σ 7) w1 w2 hk (by omega) w4 w5
  have t7 : τ 7 = σ 7 := hf 7 (by decide) (by omega)
  have h7' : τ 7 < 40 := by omega
  have h8 := w1.1
  have hWF := WF_lg (v := payD D) ⟨w1, w2, w3, w4, w5, w6, w7⟩ hf hv hh hq h7 hk hp
  refine ⟨lgN τ k (payD D), D, payD D, hWF, ⟨?_, fun j hj => ?_, fun i hi => ?_⟩, ?_, hp, ?_, ?_⟩
  · rw [lg_7]
    omega
  · rw [lg_fr h7' (by omega) (by omega)]
    exact hf j (by omega) (by omega)
  · rw [(lg_row h7' (by omega)).1, if_neg (by omega)]
    exact hf _ (by omega) (by omega)
  · rw [lg_7, t7]
  · intro o w s l b0 b1 b2 d g x h
    obtain ⟨c4, cp, cw, ch, cl⟩ := h
    unfold f_X9_ask
    rw [nx_eq, ok_zb3]
    refine ok_mono (hC s w (si d 0 (nI 0)) ch cw (DD_0 d)) (fun p hp1 => ?_)
    obtain ⟨r1, r2, r3⟩ := hp1
    have hB := cp.2.2.2.2.2
    rw [nx_eq, r3, ok_zb1]
    have cl' : RCl l τ := RCl_congr cl w3 (fun j hj => hf j (by omega) (by omega))
    refine ok_mono (c_logAdd cl' r1 h7') (fun l' hl' => ?_)
    rw [ok_zb5]
    have cp' : CP (si o 4 (o 4 0 + nI (payD D))) b0 b1 b2 g x := by
      refine ⟨⟨?_, ?_⟩, cp.2⟩
      · rw [si_ne (by decide)]; exact cp.1.1
      · rw [si_ne (by decide)]; exact cp.1.2
    refine ok_mono (c_post cp' r2 hdl hdk) (fun y hy => ok_some.mpr ⟨⟨?_, hy.1, ?_, ?_, hl'⟩, rfl⟩)
    · show y.1 4 0 = _
      rw [hy.2 4 (by decide) (by decide), si_eq, c4, nI_add, fold_4 hB]
    · refine RCw_congr cw h8 (fun j a b => ?_)
      rw [lg_fr h7' (by omega) (by omega)]
      exact hf j a (by omega)
    · show RCh p.1 _
      obtain ⟨q0, q1, q2, q3, q4⟩ := r1
      have e : ∀ j, j < 104 → j ≠ 7 → lgN τ k (payD D) j = τ j := fun j hj h => lg_fr h7' (by omega) h
      refine ⟨by rw [e 0 (by decide) (by decide)]; exact q0, by rw [e 1 (by decide) (by decide)]; exact q1, by rw [e 3 (by decide) (by decide)]; exact q2, ?_, fun j hj => ?_⟩
      · rw [q3]
        refine congrArg nI ?_
        unfold liesN
        rw [e 2 (by decide) (by decide), e 3 (by decide) (by decide)]
        have := hv.1
        exact sumB_congr (fun _ _ => rfl) (fun j hj _ => (e (8 + j) (by omega) (by omega)).symm)
      · rw [e (32 + j) (by omega) (by omega), e (48 + j) (by omega) (by omega), e 2 (by decide) (by decide), e (40 + j) (by omega) (by omega)]
        exact q4 j hj
  · intro M x h
    obtain ⟨p, ep, hp1, hp2, hp3⟩ := hM M x h
    obtain ⟨M1, r⟩ := p
    dsimp only at hp1 hp2 hp3
    subst hp3
    refine ok_mono (m_logs ep hp1 h7') (fun y hy => ⟨hy.1, FrM_trans hp2 hy.2.1, hy.2.2⟩)
