/-! ===== the BEST PLAN, as both make it ===== -/
def fitN (σ : Nat → Nat) (room s : Nat) : Prop := sumB (szN σ) s (σ 2) ≤ room
def prS (σ : Nat → Nat) (s : Nat) : Nat := sumB (prN σ) s (σ 2)
/-- the least ahead: over all sets below t -/
def mnU (σ : Nat → Nat) (room : Nat) (C : Nat → Nat) (s : Nat) : Nat → Nat
  | 0 => 1000000
  | t + 1 => if sumB (szN σ) t (σ 2) ≤ room ∧ C t < 1000000 ∧ C t + prS σ (andn s t) < mnU σ room C s t then C t + prS σ (andn s t) else mnU σ room C s t
def srvN (σ : Nat → Nat) (i s : Nat) : Nat := if s.testBit (σ (104 + i)) = true then 0 else σ (24 + σ (104 + i))
/-- RULE once: it must be there -/
def mustN (σ : Nat → Nat) (room i : Nat) : Prop := σ 1 = 0 ∧ σ (8 + σ (104 + i)) ≤ room
def rowN (σ : Nat → Nat) (room al : Nat) : Nat → Nat → Nat
  | 0, s => if s = 0 then 0 else 1000000
  | n + 1, s => if sumB (szN σ) s (σ 2) ≤ room ∧ s &&& al = al ∧ mnU σ room (rowN σ room al n) s (2 ^ σ 2) < 1000000 ∧ ((σ 1 = 0 ∧ σ (8 + σ (104 + n)) ≤ room) → s.testBit (σ (104 + n)) = true) then mnU σ room (rowN σ room al n) s (2 ^ σ 2) + srvN σ n s else 1000000
/-- the first of the least -/
def lsN (σ : Nat → Nat) (room : Nat) (C : Nat → Nat) : Nat → Nat
  | 0 => 0
  | s + 1 => if sumB (szN σ) s (σ 2) ≤ room ∧ C s < C (lsN σ room C s) then s else lsN σ room C s
/-- the first below n that fits a sum -/
def faN (σ : Nat → Nat) (room : Nat) (C : Nat → Nat) (behind sum : Nat) : Nat → Option Nat
  | 0 => none
  | s + 1 => match faN σ room C behind sum s with
    | some t => some t
    | none => if sumB (szN σ) s (σ 2) ≤ room ∧ C s + prS σ (andn behind s) = sum then some s else none
/-- the PLAN's set at t - 1 - d -/
def chN (σ : Nat → Nat) (room t : Nat) : Nat → Nat
  | 0 => lsN σ room (rowN σ room 0 t) (2 ^ σ 2)
  | d + 1 => (faN σ room (rowN σ room 0 (t - 1 - d)) (chN σ room t d) (rowN σ room 0 (t - d) (chN σ room t d) - srvN σ (t - 1 - d) (chN σ room t d)) (2 ^ σ 2)).getD 0
/-- the sets that fit, by their numbers -/
def ftC (σ : Nat → Nat) (room : Nat) : Nat → Nat
  | 0 => 0
  | s + 1 => ftC σ room s + (if sumB (szN σ) s (σ 2) ≤ room then 1 else 0)
/-- the planner's tables -/
def PT (p : Ob) (σ : Nat → Nat) (room : Nat) : Prop := p 6 0 = nI (σ 2) ∧ (∀ s, s < 2 ^ σ 2 → p 2 s = nI (sumB (szN σ) s (σ 2)) ∧ p 3 s = nI (prS σ s)) ∧ p 5 0 = nI (ftC σ room (2 ^ σ 2)) ∧ ∀ s, s < 2 ^ σ 2 → sumB (szN σ) s (σ 2) ≤ room → p 4 (ftC σ room s) = nI s
def RPlan (p : Ob) (σ : Nat → Nat) : Prop := (p 7 0 = -nI 1 ∧ p 8 0 = -nI 1) ∨ ∃ r, r ≤ σ 7 ∧ p 7 0 = nI r ∧ PT p σ (σ 0) ∧ (∀ n s, n ≤ r → s < 2 ^ σ 2 → sumB (szN σ) s (σ 2) ≤ σ 0 → p 1 (256 * n + s) = nI (rowN σ (σ 0) 0 n s)) ∧ (p 8 0 = -nI 1 ∨ ∃ t, t ≤ r ∧ p 8 0 = nI t ∧ ∀ d, d < t → p 9 (t - 1 - d) = nI (chN σ (σ 0) t d))
/-! ===== what class and model have in common ===== -/
def RelO (V : Nat → Ob) (PI : PV) (M : Ob) : Prop := RTape (V 1) M ∧ V 1 2 0 = M 13 0 ∧ RRow (V 0 13 0) (V 0 12) (M 39 0) (M 38) 20 ∧ RRow (V 16 0 0) (V 16 1) (M 42 0) (M 41) 8 ∧ RImg PI M ∧ V 14 0 0 = nI 1 ∧ V 15 0 0 = nI 0
def RelS (V : Nat → Ob) (PK PI : PV) (M : Ob) (σ : Nat → Nat) (g : Nat) (fc fm : Bool) : Prop := (M 0 = rw σ ∧ WF σ ∧ RC (fun i => V (3 + i)) σ) ∧ GC (V 11) g fc ∧ GM M g fm ∧ RHist (V 10) PK M ∧ RPlan (V 14) σ ∧ RelO V PI M
def Rel : RelT := fun V PK PI M => ∃ σ g fc fm, RelS V PK PI M σ g fc fm
theorem RTape_fr {o M M' : Ob} (h : RTape o M) (h6 : M' 6 = M 6) (h7 : M' 7 = M 7) : RTape o M' := by
  obtain ⟨n, t, a, b, c, d⟩ := h
  refine ⟨n, t, a, b, by rw [h7]; exact c, fun i hi => ?_⟩
  rw [h6]
  exact d i hi
theorem RImg_fr {PI : PV} {M M' : Ob} (h : RImg PI M) (h1 : M' 1 = M 1) (h4 : M' 4 = M 4) : RImg PI M' := by
  unfold RImg KR
  rw [h1, h4]
  exact h
theorem RHist_fr {o : Ob} {PK : PV} {M M' : Ob} (h : RHist o PK M) (h2 : M' 2 = M 2) (h5 : M' 5 = M 5) : RHist o PK M' := by
  unfold RHist KR
  rw [h2, h5]
  exact h
theorem RelO_fr {V V' : Nat → Ob} {PI : PV} {M M' : Ob} (h : RelO V PI M) (h0 : V' 0 = V 0) (h1 : V' 1 = V 1) (h16 : V' 16 = V 16) (h14 : V' 14 0 = V 14 0) (h15 : V' 15 0 = V 15 0) (hM : ∀ j, j = 1 ∨ j = 4 ∨ j = 6 ∨ j = 7 ∨ j = 13 ∨ j = 38 ∨ j = 39 ∨ j = 41 ∨ j = 42 → M' j = M j) : RelO V' PI M' := by
  obtain ⟨a, b, c, d, e, f, g⟩ := h
  unfold RelO
  rw [h0, h1, h16, h14, h15, hM 13 (by omega), hM 38 (by omega), hM 39 (by omega), hM 41 (by omega), hM 42 (by omega)]
  exact ⟨RTape_fr a (hM 6 (by omega)) (hM 7 (by omega)), b, c, d, RImg_fr e (hM 1 (by omega)) (hM 4 (by omega)), f, g⟩
theorem vu_v7 {V : Nat → Ob} : (fun i => V (3 + i)) 0 = V 3 := rfl
theorem RC_un {V : Nat → Ob} {σ : Nat → Nat} {o w s l b0 b1 b2 : Ob} (h : RC (v7 o w s l b0 b1 b2) σ) (h3 : V 3 = o) (h4 : V 4 = w) (h5 : V 5 = s) (h6 : V 6 = l) (h7 : V 7 = b0) (h8 : V 8 = b1) (h9 : V 9 = b2) : RC (fun i => V (3 + i)) σ := by
  subst h3 h4 h5 h6 h7 h8 h9
  exact h
/-! the rest of a PLAN when the LOG grows -/
theorem sumB_gr {σ σ' : Nat → Nat} (h : Grow σ σ') (h8 : σ 2 ≤ 8) (s : Nat) : sumB (szN σ') s (σ' 2) = sumB (szN σ) s (σ 2) := by
  rw [h.2.1 2 (by omega)]
  exact sumB_congr (fun _ _ => rfl) (fun k hk _ => h.2.1 (8 + k) (by omega))
theorem prS_gr {σ σ' : Nat → Nat} (h : Grow σ σ') (h8 : σ 2 ≤ 8) (s : Nat) : prS σ' s = prS σ s := by
  unfold prS
  rw [h.2.1 2 (by omega)]
  exact sumB_congr (fun _ _ => rfl) (fun k hk _ => h.2.1 (16 + k) (by omega))
theorem mnU_gr {σ σ' : Nat → Nat} (h : Grow σ σ') (h8 : σ 2 ≤ 8) {room : Nat} {C C' : Nat → Nat} (hC : ∀ s, C' s = C s) (s : Nat) : ∀ t, mnU σ' room C' s t = mnU σ room C s t
  | 0 => rfl
  | t + 1 => by
    unfold mnU
    rw [mnU_gr h h8 hC s t, sumB_gr h h8, prS_gr h h8, hC]
theorem srvN_gr {σ σ' : Nat → Nat} (h : Grow σ σ') (hw : WF σ) {i : Nat} (hi : i < σ 7) (s : Nat) : srvN σ' i s = srvN σ i s := by
  have := (hw.2.2.2.2.2.2 i hi).1
  have h8 := hw.1.1
  unfold srvN
  rw [h.2.2 i hi, h.2.1 (24 + σ (104 + i)) (by omega)]
theorem rowN_gr {σ σ' : Nat → Nat} (h : Grow σ σ') (hw : WF σ) {room al : Nat} : ∀ n, n ≤ σ 7 → ∀ s, rowN σ' room al n s = rowN σ room al n s
  | 0, _, s => rfl
  | n + 1, hn, s => by
    have h8 := hw.1.1
    have ih := rowN_gr h hw (room := room) (al := al) n (by omega)
    have hk := (hw.2.2.2.2.2.2 n (by omega)).1
    unfold rowN
    rw [sumB_gr h h8, h.2.1 2 (by omega), mnU_gr h h8 ih, srvN_gr h hw (by omega), h.2.1 1 (by omega), h.2.2 n (by omega), h.2.1 (8 + σ (104 + n)) (by omega)]
theorem lsN_gr {σ σ' : Nat → Nat} (h : Grow σ σ') (h8 : σ 2 ≤ 8) {room : Nat} {C C' : Nat → Nat} (hC : ∀ s, C' s = C s) : ∀ n, lsN σ' room C' n = lsN σ room C n
  | 0 => rfl
  | n + 1 => by
    unfold lsN
    rw [lsN_gr h h8 hC n, sumB_gr h h8, hC, hC]
theorem faN_gr {σ σ' : Nat → Nat} (h : Grow σ σ') (h8 : σ 2 ≤ 8) {room b m : Nat} {C C' : Nat → Nat} (hC : ∀ s, C' s = C s) : ∀ n, faN σ' room C' b m n = faN σ room C b m n
  | 0 => rfl
  | n + 1 => by
    unfold faN
    rw [faN_gr h h8 hC n, sumB_gr h h8, prS_gr h h8, hC]
theorem chN_gr {σ σ' : Nat → Nat} (h : Grow σ σ') (hw : WF σ) {room t : Nat} (ht : t ≤ σ 7) : ∀ d, d < t → chN σ' room t d = chN σ room t d
  | 0, hd => by
    unfold chN
    rw [lsN_gr h hw.1.1 (rowN_gr h hw t ht), h.2.1 2 (by omega)]
  | d + 1, hd => by
    have ih := chN_gr h hw ht (room := room) d (by omega)
    unfold chN
    rw [ih, srvN_gr h hw (by omega), rowN_gr h hw (t - d) (by omega), faN_gr h hw.1.1 (rowN_gr h hw (t - 1 - d) (by omega)), h.2.1 2 (by omega)]
theorem ftC_gr {σ σ' : Nat → Nat} (h : Grow σ σ') (h8 : σ 2 ≤ 8) {room : Nat} : ∀ n, ftC σ' room n = ftC σ room n
  | 0 => rfl
  | n + 1 => by
    unfold ftC
    rw [ftC_gr h h8 n, sumB_gr h h8]
theorem RPlan_gr {p : Ob} {σ σ' : Nat → Nat} (hp : RPlan p σ) (h : Grow σ σ') (hw : WF σ) : RPlan p σ' := by
  have h8 := hw.1.1
  have e0 := h.2.1 0 (by omega)
  have e2 := h.2.1 2 (by omega)
  rcases hp with hp | ⟨r, hr, h7, ⟨t1, t2, t3, t4⟩, hc, ht⟩
  · exact Or.inl hp
  · refine Or.inr ⟨r, Nat.le_trans hr h.1, h7, ⟨by rw [e2]; exact t1, fun s hs => ?_, ?_, fun s hs hf => ?_⟩, fun n s hn hs hf => ?_, ?_⟩
    · rw [e2] at hs
      rw [sumB_gr h h8, prS_gr h h8]
      exact t2 s hs
    · rw [e0, e2, ftC_gr h h8]
      exact t3
    · rw [e2] at hs
      rw [sumB_gr h h8, e0] at hf
      rw [e0, ftC_gr h h8]
      exact t4 s hs hf
    · rw [e2] at hs
      rw [sumB_gr h h8, e0] at hf
      rw [e0, rowN_gr h hw n (by omega)]
      exact hc n s hn hs hf
    · rcases ht with ht | ⟨t, a, b, c⟩
      · exact Or.inl ht
      · refine Or.inr ⟨t, a, b, fun d hd => ?_⟩
        rw [e0, chN_gr h hw (by omega) d hd]
        exact c d hd
