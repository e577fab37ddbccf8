set_option maxHeartbeats 8000000 in
set_option maxRecDepth 100000 in
theorem fm_feed (l : Launch) (D : va_G) (cA : Nat → ClassId) (g : Nat → Nat) (h : Nat) (a : Nat → Nat) (M : Ob) (v1 : Int32) (v2 : Int32) (v3 : Int32) (v4 : Int32) (v5 : Int32) (M' : Ob) (rv : Int32) (hF : h_feed M v1 v2 v3 v4 v5 = some (M', rv)) : ∀ (sz : Nat) (w : va_W), MW cA h a M w → Met l yX12_feed wsX12_feed ({ frames := 1, cells := 0, slots := 0, locals := 22 }) (va_Pc [.ref h, .int v1, .int v2, .int v3, .int v4, .int v5] (PreN D cA g sz w)) (va_Qi (fun (r : Int32) (_ : va_W) => r = rv) (PostT D cA sz w [] (MW cA h a M')) (va_A w sz)) 0 0 (va_A w sz) := by
  intro sz w hw
  obtain ⟨M2, r, hc, hF⟩ := zb2_e hF
  obtain ⟨e1, e4⟩ : M2 = M' ∧ r = rv := by cases hF; exact ⟨rfl, rfl⟩
  subst e1
  subst e4
  exact fr_i (c0 := (w_X12_four cA h a M)) (c1 := (w_X12_four cA h a M2)) (rest := []) (by rw [List.append_nil]; exact hw) (by rw [List.append_nil]; exact List.Perm.refl _) (c_X12_feed l D cA g sz h a M v1 v2 v3 v4 v5 M2 r hc)
set_option maxHeartbeats 8000000 in
set_option maxRecDepth 100000 in
theorem fm_end (l : Launch) (D : va_G) (cA : Nat → ClassId) (g : Nat → Nat) (h : Nat) (a : Nat → Nat) (M : Ob) (v1 : Int32) (M' : Ob) (rv : Int32) (hF : h_end M v1 = some (M', rv)) : ∀ (sz : Nat) (w : va_W), MW cA h a M w → Met l yX12_end wsX12_end ({ frames := 0, cells := 0, slots := 0, locals := 0 }) (va_Pc [.ref h, .int v1] (PreN D cA g sz w)) (va_Qi (fun (r : Int32) (_ : va_W) => r = rv) (PostT D cA sz w [] (MW cA h a M')) (va_A w sz)) 0 0 (va_A w sz) := by
  intro sz w hw
  obtain ⟨M2, r, hc, hF⟩ := zb2_e hF
  obtain ⟨e1, e4⟩ : M2 = M' ∧ r = rv := by cases hF; exact ⟨rfl, rfl⟩
  subst e1
  subst e4
  exact fr_i (c0 := (w_X12_four cA h a M)) (c1 := (w_X12_four cA h a M2)) (rest := []) (by rw [List.append_nil]; exact hw) (by rw [List.append_nil]; exact List.Perm.refl _) (c_X12_end l D cA g sz h a M v1 M2 r hc)
set_option maxHeartbeats 8000000 in
set_option maxRecDepth 100000 in
theorem fm_store (l : Launch) (D : va_G) (cA : Nat → ClassId) (g : Nat → Nat) (h : Nat) (a : Nat → Nat) (M : Ob)  (M' : Ob) (rv : Int32) (hF : h_store M  = some (M', rv)) : ∀ (sz : Nat) (w : va_W), MW cA h a M w → Met l yX12_store wsX12_store ({ frames := 6, cells := 0, slots := 0, locals := 129 }) (va_Pc [.ref h] (PreN D cA g sz w)) (va_Qi (fun (r : Int32) (_ : va_W) => r = rv) (PostT D cA sz w [] (MW cA h a M')) (va_A w sz)) 0 0 (va_A w sz) := by
  intro sz w hw
  obtain ⟨M2, r, hc, hF⟩ := zb2_e hF
  obtain ⟨e1, e4⟩ : M2 = M' ∧ r = rv := by cases hF; exact ⟨rfl, rfl⟩
  subst e1
  subst e4
  exact fr_i (c0 := (w_X12_four cA h a M)) (c1 := (w_X12_four cA h a M2)) (rest := []) (by rw [List.append_nil]; exact hw) (by rw [List.append_nil]; exact List.Perm.refl _) (c_X12_store l D cA g sz h a M  M2 r hc)
set_option maxHeartbeats 8000000 in
set_option maxRecDepth 100000 in
theorem fm_fault (l : Launch) (D : va_G) (cA : Nat → ClassId) (g : Nat → Nat) (h : Nat) (a : Nat → Nat) (M : Ob)  (M' : Ob) (rv : Int32) (hF : h_fault M  = some (M', rv)) : ∀ (sz : Nat) (w : va_W), MW cA h a M w → Met l yX12_fault wsX12_fault ({ frames := 0, cells := 0, slots := 0, locals := 0 }) (va_Pc [.ref h] (PreN D cA g sz w)) (va_Qi (fun (r : Int32) (_ : va_W) => r = rv) (PostT D cA sz w [] (MW cA h a M')) (va_A w sz)) 0 0 (va_A w sz) := by
  intro sz w hw
  obtain ⟨r, hc, hF⟩ := zb1_e hF
  obtain ⟨e1, e4⟩ : M = M' ∧ r = rv := by cases hF; exact ⟨rfl, rfl⟩
  subst e1
  subst e4
  exact fr_i (c0 := (w_X12_four cA h a M)) (c1 := (w_X12_four cA h a M)) (rest := []) (by rw [List.append_nil]; exact hw) (by rw [List.append_nil]; exact List.Perm.refl _) (c_X12_fault l D cA g sz h a M  r hc)
set_option maxHeartbeats 8000000 in
set_option maxRecDepth 100000 in
theorem fm_now (l : Launch) (D : va_G) (cA : Nat → ClassId) (g : Nat → Nat) (h : Nat) (a : Nat → Nat) (M : Ob) (v1 : Int32) (M' : Ob) (rv : Int32) (hF : h_now M v1 = some (M', rv)) : ∀ (sz : Nat) (w : va_W), MW cA h a M w → Met l yX12_now wsX12_now ({ frames := 2, cells := 0, slots := 0, locals := 43 }) (va_Pc [.ref h, .int v1] (PreN D cA g sz w)) (va_Qi (fun (r : Int32) (_ : va_W) => r = rv) (PostT D cA sz w [] (MW cA h a M')) (va_A w sz)) 0 0 (va_A w sz) := by
  intro sz w hw
  obtain ⟨r, hc, hF⟩ := zb1_e hF
  obtain ⟨e1, e4⟩ : M = M' ∧ r = rv := by cases hF; exact ⟨rfl, rfl⟩
  subst e1
  subst e4
  exact fr_i (c0 := (w_X12_four cA h a M)) (c1 := (w_X12_four cA h a M)) (rest := []) (by rw [List.append_nil]; exact hw) (by rw [List.append_nil]; exact List.Perm.refl _) (c_X12_now l D cA g sz h a M v1 r hc)
set_option maxHeartbeats 8000000 in
set_option maxRecDepth 100000 in
theorem fm_item (l : Launch) (D : va_G) (cA : Nat → ClassId) (g : Nat → Nat) (h : Nat) (a : Nat → Nat) (M : Ob) (v1 : Int32) (v2 : Int32) (M' : Ob) (rv : Int32) (hF : h_item M v1 v2 = some (M', rv)) : ∀ (sz : Nat) (w : va_W), MW cA h a M w → Met l yX12_item_ wsX12_item_ ({ frames := 2, cells := 0, slots := 0, locals := 43 }) (va_Pc [.ref h, .int v1, .int v2] (PreN D cA g sz w)) (va_Qi (fun (r : Int32) (_ : va_W) => r = rv) (PostT D cA sz w [] (MW cA h a M')) (va_A w sz)) 0 0 (va_A w sz) := by
  intro sz w hw
  obtain ⟨r, hc, hF⟩ := zb1_e hF
  obtain ⟨e1, e4⟩ : M = M' ∧ r = rv := by cases hF; exact ⟨rfl, rfl⟩
  subst e1
  subst e4
  exact fr_i (c0 := (w_X12_four cA h a M)) (c1 := (w_X12_four cA h a M)) (rest := []) (by rw [List.append_nil]; exact hw) (by rw [List.append_nil]; exact List.Perm.refl _) (c_X12_item_ l D cA g sz h a M v1 v2 r hc)
set_option maxHeartbeats 8000000 in
set_option maxRecDepth 100000 in
theorem fm_request (l : Launch) (D : va_G) (cA : Nat → ClassId) (g : Nat → Nat) (h : Nat) (a : Nat → Nat) (M : Ob) (v1 : Int32) (M' : Ob) (rv : Int32) (hF : h_request M v1 = some (M', rv)) : ∀ (sz : Nat) (w : va_W), MW cA h a M w → Met l yX12_request wsX12_request ({ frames := 6, cells := 0, slots := 0, locals := 139 }) (va_Pc [.ref h, .int v1] (PreN D cA g sz w)) (va_Qi (fun (r : Int32) (_ : va_W) => r = rv) (PostT D cA sz w [] (MW cA h a M')) (va_A w sz)) 0 0 (va_A w sz) := by
  intro sz w hw
  obtain ⟨M2, r, hc, hF⟩ := zb2_e hF
  obtain ⟨e1, e4⟩ : M2 = M' ∧ r = rv := by cases hF; exact ⟨rfl, rfl⟩
  subst e1
  subst e4
  exact fr_i (c0 := (w_X12_four cA h a M)) (c1 := (w_X12_four cA h a M2)) (rest := []) (by rw [List.append_nil]; exact hw) (by rw [List.append_nil]; exact List.Perm.refl _) (c_X12_request l D cA g sz h a M v1 M2 r hc)
set_option maxHeartbeats 8000000 in
set_option maxRecDepth 100000 in
theorem fm_names (l : Launch) (D : va_G) (cA : Nat → ClassId) (g : Nat → Nat) (h : Nat) (a : Nat → Nat) (M : Ob)  (M' : Ob) (rv : Int32) (hF : h_names M  = some (M', rv)) : ∀ (sz : Nat) (w : va_W), MW cA h a M w → Met l yX12_names wsX12_names ({ frames := 7, cells := 0, slots := 0, locals := 162 }) (va_Pc [.ref h] (PreN D cA g sz w)) (va_Qi (fun (r : Int32) (_ : va_W) => r = rv) (PostT D cA sz w [] (MW cA h a M')) (va_A w sz)) 0 0 (va_A w sz) := by
  intro sz w hw
  obtain ⟨M2, r, hc, hF⟩ := zb2_e hF
  obtain ⟨e1, e4⟩ : M2 = M' ∧ r = rv := by cases hF; exact ⟨rfl, rfl⟩
  subst e1
  subst e4
  exact fr_i (c0 := (w_X12_four cA h a M)) (c1 := (w_X12_four cA h a M2)) (rest := []) (by rw [List.append_nil]; exact hw) (by rw [List.append_nil]; exact List.Perm.refl _) (c_X12_names l D cA g sz h a M  M2 r hc)
set_option maxHeartbeats 8000000 in
set_option maxRecDepth 100000 in
theorem fm_log (l : Launch) (D : va_G) (cA : Nat → ClassId) (g : Nat → Nat) (h : Nat) (a : Nat → Nat) (M : Ob) (v1 : Int32) (v2 : Int32) (M' : Ob) (rv : Int32) (hF : h_log M v1 v2 = some (M', rv)) : ∀ (sz : Nat) (w : va_W), MW cA h a M w → Met l yX12_log wsX12_log ({ frames := 2, cells := 0, slots := 0, locals := 43 }) (va_Pc [.ref h, .int v1, .int v2] (PreN D cA g sz w)) (va_Qi (fun (r : Int32) (_ : va_W) => r = rv) (PostT D cA sz w [] (MW cA h a M')) (va_A w sz)) 0 0 (va_A w sz) := by
  intro sz w hw
  obtain ⟨r, hc, hF⟩ := zb1_e hF
  obtain ⟨e1, e4⟩ : M = M' ∧ r = rv := by cases hF; exact ⟨rfl, rfl⟩
  subst e1
  subst e4
  exact fr_i (c0 := (w_X12_four cA h a M)) (c1 := (w_X12_four cA h a M)) (rest := []) (by rw [List.append_nil]; exact hw) (by rw [List.append_nil]; exact List.Perm.refl _) (c_X12_log l D cA g sz h a M v1 v2 r hc)
set_option maxHeartbeats 8000000 in
set_option maxRecDepth 100000 in
theorem fm_room (l : Launch) (D : va_G) (cA : Nat → ClassId) (g : Nat → Nat) (h : Nat) (a : Nat → Nat) (M : Ob) (v1 : Int32) (M' : Ob) (rv : Int32) (hF : h_room M v1 = some (M', rv)) : ∀ (sz : Nat) (w : va_W), MW cA h a M w → Met l yX12_room wsX12_room ({ frames := 2, cells := 0, slots := 0, locals := 45 }) (va_Pc [.ref h, .int v1] (PreN D cA g sz w)) (va_Qi (fun (r : Int32) (_ : va_W) => r = rv) (PostT D cA sz w [] (MW cA h a M')) (va_A w sz)) 0 0 (va_A w sz) := by
  intro sz w hw
  obtain ⟨M2, r, hc, hF⟩ := zb2_e hF
  obtain ⟨e1, e4⟩ : M2 = M' ∧ r = rv := by cases hF; exact ⟨rfl, rfl⟩
  subst e1
  subst e4
  exact fr_i (c0 := (w_X12_four cA h a M)) (c1 := (w_X12_four cA h a M2)) (rest := []) (by rw [List.append_nil]; exact hw) (by rw [List.append_nil]; exact List.Perm.refl _) (c_X12_room l D cA g sz h a M v1 M2 r hc)
set_option maxHeartbeats 8000000 in
set_option maxRecDepth 100000 in
theorem fm_rule (l : Launch) (D : va_G) (cA : Nat → ClassId) (g : Nat → Nat) (h : Nat) (a : Nat → Nat) (M : Ob) (v1 : Int32) (M' : Ob) (rv : Int32) (hF : h_rule M v1 = some (M', rv)) : ∀ (sz : Nat) (w : va_W), MW cA h a M w → Met l yX12_rule wsX12_rule ({ frames := 2, cells := 0, slots := 0, locals := 45 }) (va_Pc [.ref h, .int v1] (PreN D cA g sz w)) (va_Qi (fun (r : Int32) (_ : va_W) => r = rv) (PostT D cA sz w [] (MW cA h a M')) (va_A w sz)) 0 0 (va_A w sz) := by
  intro sz w hw
  obtain ⟨M2, r, hc, hF⟩ := zb2_e hF
  obtain ⟨e1, e4⟩ : M2 = M' ∧ r = rv := by cases hF; exact ⟨rfl, rfl⟩
  subst e1
  subst e4
  exact fr_i (c0 := (w_X12_four cA h a M)) (c1 := (w_X12_four cA h a M2)) (rest := []) (by rw [List.append_nil]; exact hw) (by rw [List.append_nil]; exact List.Perm.refl _) (c_X12_rule l D cA g sz h a M v1 M2 r hc)
set_option maxHeartbeats 8000000 in
set_option maxRecDepth 100000 in
theorem fm_carry (l : Launch) (D : va_G) (cA : Nat → ClassId) (g : Nat → Nat) (h : Nat) (a : Nat → Nat) (M : Ob) (v1 : Int32) (v2 : Int32) (M' : Ob) (rv : Int32) (hF : h_carry M v1 v2 = some (M', rv)) : ∀ (sz : Nat) (w : va_W), MW cA h a M w → Met l yX12_carry wsX12_carry ({ frames := 3, cells := 0, slots := 0, locals := 68 }) (va_Pc [.ref h, .int v1, .int v2] (PreN D cA g sz w)) (va_Qi (fun (r : Int32) (_ : va_W) => r = rv) (PostT D cA sz w [] (MW cA h a M')) (va_A w sz)) 0 0 (va_A w sz) := by
  intro sz w hw
  obtain ⟨M2, r, hc, hF⟩ := zb2_e hF
  obtain ⟨e1, e4⟩ : M2 = M' ∧ r = rv := by cases hF; exact ⟨rfl, rfl⟩
  subst e1
  subst e4
  exact fr_i (c0 := (w_X12_four cA h a M)) (c1 := (w_X12_four cA h a M2)) (rest := []) (by rw [List.append_nil]; exact hw) (by rw [List.append_nil]; exact List.Perm.refl _) (c_X12_carry l D cA g sz h a M v1 v2 M2 r hc)
set_option maxHeartbeats 8000000 in
set_option maxRecDepth 100000 in
theorem fm_gate (l : Launch) (D : va_G) (cA : Nat → ClassId) (g : Nat → Nat) (h : Nat) (a : Nat → Nat) (M : Ob) (v1 : Int32) (M' : Ob) (rv : Int32) (hF : h_gate M v1 = some (M', rv)) : ∀ (sz : Nat) (w : va_W), MW cA h a M w → Met l yX12_gate wsX12_gate ({ frames := 1, cells := 0, slots := 0, locals := 22 }) (va_Pc [.ref h, .int v1] (PreN D cA g sz w)) (va_Qi (fun (r : Int32) (_ : va_W) => r = rv) (PostT D cA sz w [] (MW cA h a M')) (va_A w sz)) 0 0 (va_A w sz) := by
  intro sz w hw
  obtain ⟨r, hc, hF⟩ := zb1_e hF
  obtain ⟨e1, e4⟩ : M = M' ∧ r = rv := by cases hF; exact ⟨rfl, rfl⟩
  subst e1
  subst e4
  exact fr_i (c0 := (w_X12_four cA h a M)) (c1 := (w_X12_four cA h a M)) (rest := []) (by rw [List.append_nil]; exact hw) (by rw [List.append_nil]; exact List.Perm.refl _) (c_X12_gate l D cA g sz h a M v1 r hc)
set_option maxHeartbeats 8000000 in
set_option maxRecDepth 100000 in
theorem fm_book (l : Launch) (D : va_G) (cA : Nat → ClassId) (g : Nat → Nat) (h : Nat) (a : Nat → Nat) (M : Ob) (v1 : Int32) (v2 : Int32) (v3 : Int32) (M' : Ob) (rv : Int32) (hF : h_book M v1 v2 v3 = some (M', rv)) : ∀ (sz : Nat) (w : va_W), MW cA h a M w → Met l yX12_book wsX12_book ({ frames := 1, cells := 0, slots := 0, locals := 22 }) (va_Pc [.ref h, .int v1, .int v2, .int v3] (PreN D cA g sz w)) (va_Qi (fun (r : Int32) (_ : va_W) => r = rv) (PostT D cA sz w [] (MW cA h a M')) (va_A w sz)) 0 0 (va_A w sz) := by
  intro sz w hw
  obtain ⟨M2, r, hc, hF⟩ := zb2_e hF
  obtain ⟨e1, e4⟩ : M2 = M' ∧ r = rv := by cases hF; exact ⟨rfl, rfl⟩
  subst e1
  subst e4
  exact fr_i (c0 := (w_X12_four cA h a M)) (c1 := (w_X12_four cA h a M2)) (rest := []) (by rw [List.append_nil]; exact hw) (by rw [List.append_nil]; exact List.Perm.refl _) (c_X12_book l D cA g sz h a M v1 v2 v3 M2 r hc)
set_option maxHeartbeats 8000000 in
set_option maxRecDepth 100000 in
theorem fm_booked (l : Launch) (D : va_G) (cA : Nat → ClassId) (g : Nat → Nat) (h : Nat) (a : Nat → Nat) (M : Ob) (v1 : Int32) (v2 : Int32) (M' : Ob) (rv : Int32) (hF : h_booked M v1 v2 = some (M', rv)) : ∀ (sz : Nat) (w : va_W), MW cA h a M w → Met l yX12_booked wsX12_booked ({ frames := 2, cells := 0, slots := 0, locals := 43 }) (va_Pc [.ref h, .int v1, .int v2] (PreN D cA g sz w)) (va_Qi (fun (r : Int32) (_ : va_W) => r = rv) (PostT D cA sz w [] (MW cA h a M')) (va_A w sz)) 0 0 (va_A w sz) := by
  intro sz w hw
  obtain ⟨r, hc, hF⟩ := zb1_e hF
  obtain ⟨e1, e4⟩ : M = M' ∧ r = rv := by cases hF; exact ⟨rfl, rfl⟩
  subst e1
  subst e4
  exact fr_i (c0 := (w_X12_four cA h a M)) (c1 := (w_X12_four cA h a M)) (rest := []) (by rw [List.append_nil]; exact hw) (by rw [List.append_nil]; exact List.Perm.refl _) (c_X12_booked l D cA g sz h a M v1 v2 r hc)
set_option maxHeartbeats 8000000 in
set_option maxRecDepth 100000 in
theorem fm_line (l : Launch) (D : va_G) (cA : Nat → ClassId) (g : Nat → Nat) (h : Nat) (a : Nat → Nat) (M : Ob) (v1 : Int32) (v2 : Int32) (v3 : Int32) (M' : Ob) (rv : Int32) (hF : h_line M v1 v2 v3 = some (M', rv)) : ∀ (sz : Nat) (w : va_W), MW cA h a M w → Met l yX12_line wsX12_line ({ frames := 2, cells := 0, slots := 0, locals := 43 }) (va_Pc [.ref h, .int v1, .int v2, .int v3] (PreN D cA g sz w)) (va_Qi (fun (r : Int32) (_ : va_W) => r = rv) (PostT D cA sz w [] (MW cA h a M')) (va_A w sz)) 0 0 (va_A w sz) := by
  intro sz w hw
  obtain ⟨r, hc, hF⟩ := zb1_e hF
  obtain ⟨e1, e4⟩ : M = M' ∧ r = rv := by cases hF; exact ⟨rfl, rfl⟩
  subst e1
  subst e4
  exact fr_i (c0 := (w_X12_four cA h a M)) (c1 := (w_X12_four cA h a M)) (rest := []) (by rw [List.append_nil]; exact hw) (by rw [List.append_nil]; exact List.Perm.refl _) (c_X12_line l D cA g sz h a M v1 v2 v3 r hc)
set_option maxHeartbeats 8000000 in
set_option maxRecDepth 100000 in
theorem fm_best (l : Launch) (D : va_G) (cA : Nat → ClassId) (g : Nat → Nat) (h : Nat) (a : Nat → Nat) (M : Ob)  (M' : Ob) (rv : Int32) (hF : h_best M  = some (M', rv)) : ∀ (sz : Nat) (w : va_W), MW cA h a M w → Met l yX12_best wsX12_best ({ frames := 4, cells := 0, slots := 0, locals := 94 }) (va_Pc [.ref h] (PreN D cA g sz w)) (va_Qi (fun (r : Int32) (_ : va_W) => r = rv) (PostT D cA sz w [] (MW cA h a M')) (va_A w sz)) 0 0 (va_A w sz) := by
  intro sz w hw
  obtain ⟨M2, r, hc, hF⟩ := zb2_e hF
  obtain ⟨e1, e4⟩ : M2 = M' ∧ r = rv := by cases hF; exact ⟨rfl, rfl⟩
  subst e1
  subst e4
  exact fr_i (c0 := (w_X12_four cA h a M)) (c1 := (w_X12_four cA h a M2)) (rest := []) (by rw [List.append_nil]; exact hw) (by rw [List.append_nil]; exact List.Perm.refl _) (c_X12_best l D cA g sz h a M  M2 r hc)
set_option maxHeartbeats 8000000 in
set_option maxRecDepth 100000 in
theorem fm_plan (l : Launch) (D : va_G) (cA : Nat → ClassId) (g : Nat → Nat) (h : Nat) (a : Nat → Nat) (M : Ob) (v1 : Int32) (v2 : Int32) (M' : Ob) (rv : Int32) (hF : h_plan M v1 v2 = some (M', rv)) : ∀ (sz : Nat) (w : va_W), MW cA h a M w → Met l yX12_plan wsX12_plan ({ frames := 5, cells := 0, slots := 0, locals := 114 }) (va_Pc [.ref h, .int v1, .int v2] (PreN D cA g sz w)) (va_Qi (fun (r : Int32) (_ : va_W) => r = rv) (PostT D cA sz w [] (MW cA h a M')) (va_A w sz)) 0 0 (va_A w sz) := by
  intro sz w hw
  obtain ⟨M2, r, hc, hF⟩ := zb2_e hF
  obtain ⟨e1, e4⟩ : M2 = M' ∧ r = rv := by cases hF; exact ⟨rfl, rfl⟩
  subst e1
  subst e4
  exact fr_i (c0 := (w_X12_four cA h a M)) (c1 := (w_X12_four cA h a M2)) (rest := []) (by rw [List.append_nil]; exact hw) (by rw [List.append_nil]; exact List.Perm.refl _) (c_X12_plan l D cA g sz h a M v1 v2 M2 r hc)
set_option maxHeartbeats 8000000 in
set_option maxRecDepth 100000 in
theorem fm_potential (l : Launch) (D : va_G) (cA : Nat → ClassId) (g : Nat → Nat) (h : Nat) (a : Nat → Nat) (M : Ob) (v1 : Int32) (M' : Ob) (rv : Int32) (hF : h_potential M v1 = some (M', rv)) : ∀ (sz : Nat) (w : va_W), MW cA h a M w → Met l yX12_potential wsX12_potential ({ frames := 5, cells := 0, slots := 0, locals := 114 }) (va_Pc [.ref h, .int v1] (PreN D cA g sz w)) (va_Qi (fun (r : Int32) (_ : va_W) => r = rv) (PostT D cA sz w [] (MW cA h a M')) (va_A w sz)) 0 0 (va_A w sz) := by
  intro sz w hw
  obtain ⟨M2, r, hc, hF⟩ := zb2_e hF
  obtain ⟨e1, e4⟩ : M2 = M' ∧ r = rv := by cases hF; exact ⟨rfl, rfl⟩
  subst e1
  subst e4
  exact fr_i (c0 := (w_X12_four cA h a M)) (c1 := (w_X12_four cA h a M2)) (rest := []) (by rw [List.append_nil]; exact hw) (by rw [List.append_nil]; exact List.Perm.refl _) (c_X12_potential l D cA g sz h a M v1 M2 r hc)
set_option maxHeartbeats 8000000 in
set_option maxRecDepth 100000 in
theorem fm_proof (l : Launch) (D : va_G) (cA : Nat → ClassId) (g : Nat → Nat) (h : Nat) (a : Nat → Nat) (M : Ob) (v1 : Int32) (M' : Ob) (rv : Int32) (hF : h_proof M v1 = some (M', rv)) : ∀ (sz : Nat) (w : va_W), MW cA h a M w → Met l yX12_proof wsX12_proof ({ frames := 5, cells := 0, slots := 0, locals := 114 }) (va_Pc [.ref h, .int v1] (PreN D cA g sz w)) (va_Qi (fun (r : Int32) (_ : va_W) => r = rv) (PostT D cA sz w [] (MW cA h a M')) (va_A w sz)) 0 0 (va_A w sz) := by
  intro sz w hw
  obtain ⟨M2, r, hc, hF⟩ := zb2_e hF
  obtain ⟨e1, e4⟩ : M2 = M' ∧ r = rv := by cases hF; exact ⟨rfl, rfl⟩
  subst e1
  subst e4
  exact fr_i (c0 := (w_X12_four cA h a M)) (c1 := (w_X12_four cA h a M2)) (rest := []) (by rw [List.append_nil]; exact hw) (by rw [List.append_nil]; exact List.Perm.refl _) (c_X12_proof l D cA g sz h a M v1 M2 r hc)
set_option maxHeartbeats 8000000 in
set_option maxRecDepth 100000 in
theorem fm_bestWith (l : Launch) (D : va_G) (cA : Nat → ClassId) (g : Nat → Nat) (h : Nat) (a : Nat → Nat) (M : Ob) (v1 : Int32) (M' : Ob) (rv : Int32) (hF : h_bestWith M v1 = some (M', rv)) : ∀ (sz : Nat) (w : va_W), MW cA h a M w → Met l yX12_bestWith wsX12_bestWith ({ frames := 4, cells := 0, slots := 0, locals := 94 }) (va_Pc [.ref h, .int v1] (PreN D cA g sz w)) (va_Qi (fun (r : Int32) (_ : va_W) => r = rv) (PostT D cA sz w [] (MW cA h a M')) (va_A w sz)) 0 0 (va_A w sz) := by
  intro sz w hw
  obtain ⟨M2, r, hc, hF⟩ := zb2_e hF
  obtain ⟨e1, e4⟩ : M2 = M' ∧ r = rv := by cases hF; exact ⟨rfl, rfl⟩
  subst e1
  subst e4
  exact fr_i (c0 := (w_X12_four cA h a M)) (c1 := (w_X12_four cA h a M2)) (rest := []) (by rw [List.append_nil]; exact hw) (by rw [List.append_nil]; exact List.Perm.refl _) (c_X12_bestWith l D cA g sz h a M v1 M2 r hc)
set_option maxHeartbeats 8000000 in
set_option maxRecDepth 100000 in
theorem fm_soon (l : Launch) (D : va_G) (cA : Nat → ClassId) (g : Nat → Nat) (h : Nat) (a : Nat → Nat) (M : Ob) (v1 : Int32) (M' : Ob) (rv : Int32) (hF : h_soon M v1 = some (M', rv)) : ∀ (sz : Nat) (w : va_W), MW cA h a M w → Met l yX12_soon wsX12_soon ({ frames := 5, cells := 0, slots := 0, locals := 115 }) (va_Pc [.ref h, .int v1] (PreN D cA g sz w)) (va_Qi (fun (r : Int32) (_ : va_W) => r = rv) (PostT D cA sz w [] (MW cA h a M')) (va_A w sz)) 0 0 (va_A w sz) := by
  intro sz w hw
  obtain ⟨M2, r, hc, hF⟩ := zb2_e hF
  obtain ⟨e1, e4⟩ : M2 = M' ∧ r = rv := by cases hF; exact ⟨rfl, rfl⟩
  subst e1
  subst e4
  exact fr_i (c0 := (w_X12_four cA h a M)) (c1 := (w_X12_four cA h a M2)) (rest := []) (by rw [List.append_nil]; exact hw) (by rw [List.append_nil]; exact List.Perm.refl _) (c_X12_soon l D cA g sz h a M v1 M2 r hc)
set_option maxHeartbeats 8000000 in
set_option maxRecDepth 100000 in
theorem fm_victims (l : Launch) (D : va_G) (cA : Nat → ClassId) (g : Nat → Nat) (h : Nat) (a : Nat → Nat) (M : Ob) (v1 : Int32) (M' : Ob) (rv : Int32) (hF : h_victims M v1 = some (M', rv)) : ∀ (sz : Nat) (w : va_W), MW cA h a M w → Met l yX12_victims wsX12_victims ({ frames := 4, cells := 0, slots := 0, locals := 92 }) (va_Pc [.ref h, .int v1] (PreN D cA g sz w)) (va_Qi (fun (r : Int32) (_ : va_W) => r = rv) (PostT D cA sz w [] (MW cA h a M')) (va_A w sz)) 0 0 (va_A w sz) := by
  intro sz w hw
  obtain ⟨M2, r, hc, hF⟩ := zb2_e hF
  obtain ⟨e1, e4⟩ : M2 = M' ∧ r = rv := by cases hF; exact ⟨rfl, rfl⟩
  subst e1
  subst e4
  exact fr_i (c0 := (w_X12_four cA h a M)) (c1 := (w_X12_four cA h a M2)) (rest := []) (by rw [List.append_nil]; exact hw) (by rw [List.append_nil]; exact List.Perm.refl _) (c_X12_victims l D cA g sz h a M v1 M2 r hc)
set_option maxHeartbeats 8000000 in
set_option maxRecDepth 100000 in
theorem fm_upTo (l : Launch) (D : va_G) (cA : Nat → ClassId) (g : Nat → Nat) (h : Nat) (a : Nat → Nat) (M : Ob) (v1 : Int32) (M' : Ob) (rv : Int32) (hF : h_upTo M v1 = some (M', rv)) : ∀ (sz : Nat) (w : va_W), MW cA h a M w → Met l yX12_upTo wsX12_upTo ({ frames := 4, cells := 0, slots := 0, locals := 94 }) (va_Pc [.ref h, .int v1] (PreN D cA g sz w)) (va_Qi (fun (r : Int32) (_ : va_W) => r = rv) (PostT D cA sz w [] (MW cA h a M')) (va_A w sz)) 0 0 (va_A w sz) := by
  intro sz w hw
  obtain ⟨M2, r, hc, hF⟩ := zb2_e hF
  obtain ⟨e1, e4⟩ : M2 = M' ∧ r = rv := by cases hF; exact ⟨rfl, rfl⟩
  subst e1
  subst e4
  exact fr_i (c0 := (w_X12_four cA h a M)) (c1 := (w_X12_four cA h a M2)) (rest := []) (by rw [List.append_nil]; exact hw) (by rw [List.append_nil]; exact List.Perm.refl _) (c_X12_upTo l D cA g sz h a M v1 M2 r hc)
set_option maxHeartbeats 8000000 in
set_option maxRecDepth 100000 in
theorem fm_curve (l : Launch) (D : va_G) (cA : Nat → ClassId) (g : Nat → Nat) (h : Nat) (a : Nat → Nat) (M : Ob) (v1 : Int32) (v2 : Int32) (M' : Ob) (rv : Int32) (hF : h_curve M v1 v2 = some (M', rv)) : ∀ (sz : Nat) (w : va_W), MW cA h a M w → Met l yX12_curve wsX12_curve ({ frames := 6, cells := 0, slots := 0, locals := 140 }) (va_Pc [.ref h, .int v1, .int v2] (PreN D cA g sz w)) (va_Qi (fun (r : Int32) (_ : va_W) => r = rv) (PostT D cA sz w [] (MW cA h a M')) (va_A w sz)) 0 0 (va_A w sz) := by
  intro sz w hw
  obtain ⟨M2, r, hc, hF⟩ := zb2_e hF
  obtain ⟨e1, e4⟩ : M2 = M' ∧ r = rv := by cases hF; exact ⟨rfl, rfl⟩
  subst e1
  subst e4
  exact fr_i (c0 := (w_X12_four cA h a M)) (c1 := (w_X12_four cA h a M2)) (rest := []) (by rw [List.append_nil]; exact hw) (by rw [List.append_nil]; exact List.Perm.refl _) (c_X12_curve l D cA g sz h a M v1 v2 M2 r hc)
set_option maxHeartbeats 8000000 in
set_option maxRecDepth 100000 in
theorem fm_spent (l : Launch) (D : va_G) (cA : Nat → ClassId) (g : Nat → Nat) (h : Nat) (a : Nat → Nat) (M : Ob) (v1 : Int32) (v2 : Int32) (M' : Ob) (rv : Int32) (hF : h_spent M v1 v2 = some (M', rv)) : ∀ (sz : Nat) (w : va_W), MW cA h a M w → Met l yX12_spent wsX12_spent ({ frames := 2, cells := 0, slots := 0, locals := 43 }) (va_Pc [.ref h, .int v1, .int v2] (PreN D cA g sz w)) (va_Qi (fun (r : Int32) (_ : va_W) => r = rv) (PostT D cA sz w [] (MW cA h a M')) (va_A w sz)) 0 0 (va_A w sz) := by
  intro sz w hw
  obtain ⟨r, hc, hF⟩ := zb1_e hF
  obtain ⟨e1, e4⟩ : M = M' ∧ r = rv := by cases hF; exact ⟨rfl, rfl⟩
  subst e1
  subst e4
  exact fr_i (c0 := (w_X12_four cA h a M)) (c1 := (w_X12_four cA h a M)) (rest := []) (by rw [List.append_nil]; exact hw) (by rw [List.append_nil]; exact List.Perm.refl _) (c_X12_spent l D cA g sz h a M v1 v2 r hc)
set_option maxHeartbeats 8000000 in
set_option maxRecDepth 100000 in
theorem fm_picture (l : Launch) (D : va_G) (cA : Nat → ClassId) (g : Nat → Nat) (h : Nat) (a : Nat → Nat) (M : Ob)  (M' : Ob) (rv : Int32) (hF : h_picture M  = some (M', rv)) : ∀ (sz : Nat) (w : va_W), MW cA h a M w → Met l yX12_picture wsX12_picture ({ frames := 1, cells := 0, slots := 0, locals := 21 }) (va_Pc [.ref h] (PreN D cA g sz w)) (va_Qi (fun (r : Int32) (_ : va_W) => r = rv) (PostT D cA sz w [] (MW cA h a M')) (va_A w sz)) 0 0 (va_A w sz) := by
  intro sz w hw
  obtain ⟨M2, r, hc, hF⟩ := zb2_e hF
  obtain ⟨e1, e4⟩ : M2 = M' ∧ r = rv := by cases hF; exact ⟨rfl, rfl⟩
  subst e1
  subst e4
  exact fr_i (c0 := (w_X12_four cA h a M)) (c1 := (w_X12_four cA h a M2)) (rest := []) (by rw [List.append_nil]; exact hw) (by rw [List.append_nil]; exact List.Perm.refl _) (c_X12_picture l D cA g sz h a M  M2 r hc)
set_option maxHeartbeats 8000000 in
set_option maxRecDepth 100000 in
theorem fm_byteAt (l : Launch) (D : va_G) (cA : Nat → ClassId) (g : Nat → Nat) (h : Nat) (a : Nat → Nat) (M : Ob) (v1 : Int32) (M' : Ob) (rv : Int32) (hF : h_byteAt M v1 = some (M', rv)) : ∀ (sz : Nat) (w : va_W), MW cA h a M w → Met l yX12_byteAt wsX12_byteAt ({ frames := 1, cells := 0, slots := 0, locals := 22 }) (va_Pc [.ref h, .int v1] (PreN D cA g sz w)) (va_Qi (fun (r : Int32) (_ : va_W) => r = rv) (PostT D cA sz w [] (MW cA h a M')) (va_A w sz)) 0 0 (va_A w sz) := by
  intro sz w hw
  obtain ⟨r, hc, hF⟩ := zb1_e hF
  obtain ⟨e1, e4⟩ : M = M' ∧ r = rv := by cases hF; exact ⟨rfl, rfl⟩
  subst e1
  subst e4
  exact fr_i (c0 := (w_X12_four cA h a M)) (c1 := (w_X12_four cA h a M)) (rest := []) (by rw [List.append_nil]; exact hw) (by rw [List.append_nil]; exact List.Perm.refl _) (c_X12_byteAt l D cA g sz h a M v1 r hc)
set_option maxHeartbeats 8000000 in
set_option maxRecDepth 100000 in
theorem fm_ratio (l : Launch) (D : va_G) (cA : Nat → ClassId) (g : Nat → Nat) (h : Nat) (a : Nat → Nat) (M : Ob)  (M' : Ob) (rv : Int32) (hF : h_ratio M  = some (M', rv)) : ∀ (sz : Nat) (w : va_W), MW cA h a M w → Met l yX12_ratio wsX12_ratio ({ frames := 5, cells := 0, slots := 0, locals := 114 }) (va_Pc [.ref h] (PreN D cA g sz w)) (va_Qi (fun (r : Int32) (_ : va_W) => r = rv) (PostT D cA sz w [] (MW cA h a M')) (va_A w sz)) 0 0 (va_A w sz) := by
  intro sz w hw
  obtain ⟨M2, r, hc, hF⟩ := zb2_e hF
  obtain ⟨e1, e4⟩ : M2 = M' ∧ r = rv := by cases hF; exact ⟨rfl, rfl⟩
  subst e1
  subst e4
  exact fr_i (c0 := (w_X12_four cA h a M)) (c1 := (w_X12_four cA h a M2)) (rest := []) (by rw [List.append_nil]; exact hw) (by rw [List.append_nil]; exact List.Perm.refl _) (c_X12_ratio l D cA g sz h a M  M2 r hc)
set_option maxHeartbeats 8000000 in
set_option maxRecDepth 100000 in
theorem fm_rides (l : Launch) (D : va_G) (cA : Nat → ClassId) (g : Nat → Nat) (h : Nat) (a : Nat → Nat) (M : Ob) (v1 : Int32) (v2 : Int32) (M' : Ob) (rv : Int32) (hF : h_rides M v1 v2 = some (M', rv)) : ∀ (sz : Nat) (w : va_W), MW cA h a M w → Met l yX12_rides wsX12_rides ({ frames := 5, cells := 0, slots := 0, locals := 115 }) (va_Pc [.ref h, .int v1, .int v2] (PreN D cA g sz w)) (va_Qi (fun (r : Int32) (_ : va_W) => r = rv) (PostT D cA sz w [] (MW cA h a M')) (va_A w sz)) 0 0 (va_A w sz) := by
  intro sz w hw
  obtain ⟨M2, r, hc, hF⟩ := zb2_e hF
  obtain ⟨e1, e4⟩ : M2 = M' ∧ r = rv := by cases hF; exact ⟨rfl, rfl⟩
  subst e1
  subst e4
  exact fr_i (c0 := (w_X12_four cA h a M)) (c1 := (w_X12_four cA h a M2)) (rest := []) (by rw [List.append_nil]; exact hw) (by rw [List.append_nil]; exact List.Perm.refl _) (c_X12_rides l D cA g sz h a M v1 v2 M2 r hc)
set_option maxHeartbeats 8000000 in
set_option maxRecDepth 100000 in
theorem fm_ride (l : Launch) (D : va_G) (cA : Nat → ClassId) (g : Nat → Nat) (h : Nat) (a : Nat → Nat) (M : Ob) (v1 : Int32) (M' : Ob) (rv : Int32) (hF : h_ride M v1 = some (M', rv)) : ∀ (sz : Nat) (w : va_W), MW cA h a M w → Met l yX12_ride wsX12_ride ({ frames := 1, cells := 0, slots := 0, locals := 22 }) (va_Pc [.ref h, .int v1] (PreN D cA g sz w)) (va_Qi (fun (r : Int32) (_ : va_W) => r = rv) (PostT D cA sz w [] (MW cA h a M')) (va_A w sz)) 0 0 (va_A w sz) := by
  intro sz w hw
  obtain ⟨r, hc, hF⟩ := zb1_e hF
  obtain ⟨e1, e4⟩ : M = M' ∧ r = rv := by cases hF; exact ⟨rfl, rfl⟩
  subst e1
  subst e4
  exact fr_i (c0 := (w_X12_four cA h a M)) (c1 := (w_X12_four cA h a M)) (rest := []) (by rw [List.append_nil]; exact hw) (by rw [List.append_nil]; exact List.Perm.refl _) (c_X12_ride l D cA g sz h a M v1 r hc)
set_option maxHeartbeats 8000000 in
set_option maxRecDepth 100000 in
theorem fm_shift (l : Launch) (D : va_G) (cA : Nat → ClassId) (g : Nat → Nat) (h : Nat) (a : Nat → Nat) (M : Ob) (v1 : Int32) (v2 : Int32) (M' : Ob) (rv : Int32) (hF : h_shift M v1 v2 = some (M', rv)) : ∀ (sz : Nat) (w : va_W), MW cA h a M w → Met l yX12_shift wsX12_shift ({ frames := 5, cells := 0, slots := 0, locals := 115 }) (va_Pc [.ref h, .int v1, .int v2] (PreN D cA g sz w)) (va_Qi (fun (r : Int32) (_ : va_W) => r = rv) (PostT D cA sz w [] (MW cA h a M')) (va_A w sz)) 0 0 (va_A w sz) := by
  intro sz w hw
  obtain ⟨M2, r, hc, hF⟩ := zb2_e hF
  obtain ⟨e1, e4⟩ : M2 = M' ∧ r = rv := by cases hF; exact ⟨rfl, rfl⟩
  subst e1
  subst e4
  exact fr_i (c0 := (w_X12_four cA h a M)) (c1 := (w_X12_four cA h a M2)) (rest := []) (by rw [List.append_nil]; exact hw) (by rw [List.append_nil]; exact List.Perm.refl _) (c_X12_shift l D cA g sz h a M v1 v2 M2 r hc)
set_option maxHeartbeats 8000000 in
set_option maxRecDepth 100000 in
theorem fm_drawn (l : Launch) (D : va_G) (cA : Nat → ClassId) (g : Nat → Nat) (h : Nat) (a : Nat → Nat) (M : Ob) (v1 : Int32) (v2 : Int32) (M' : Ob) (rv : Int32) (hF : h_drawn M v1 v2 = some (M', rv)) : ∀ (sz : Nat) (w : va_W), MW cA h a M w → Met l yX12_drawn wsX12_drawn ({ frames := 6, cells := 0, slots := 0, locals := 139 }) (va_Pc [.ref h, .int v1, .int v2] (PreN D cA g sz w)) (va_Qi (fun (r : Int32) (_ : va_W) => r = rv) (PostT D cA sz w [] (MW cA h a M')) (va_A w sz)) 0 0 (va_A w sz) := by
  intro sz w hw
  obtain ⟨M2, r, hc, hF⟩ := zb2_e hF
  obtain ⟨e1, e4⟩ : M2 = M' ∧ r = rv := by cases hF; exact ⟨rfl, rfl⟩
  subst e1
  subst e4
  exact fr_i (c0 := (w_X12_four cA h a M)) (c1 := (w_X12_four cA h a M2)) (rest := []) (by rw [List.append_nil]; exact hw) (by rw [List.append_nil]; exact List.Perm.refl _) (c_X12_drawn l D cA g sz h a M v1 v2 M2 r hc)
set_option maxHeartbeats 8000000 in
set_option maxRecDepth 100000 in
theorem fm_would (l : Launch) (D : va_G) (cA : Nat → ClassId) (g : Nat → Nat) (h : Nat) (a : Nat → Nat) (M : Ob) (v1 : Int32) (M' : Ob) (rv : Int32) (hF : h_would M v1 = some (M', rv)) : ∀ (sz : Nat) (w : va_W), MW cA h a M w → Met l yX12_would wsX12_would ({ frames := 6, cells := 0, slots := 0, locals := 140 }) (va_Pc [.ref h, .int v1] (PreN D cA g sz w)) (va_Qi (fun (r : Int32) (_ : va_W) => r = rv) (PostT D cA sz w [] (MW cA h a M')) (va_A w sz)) 0 0 (va_A w sz) := by
  intro sz w hw
  obtain ⟨M2, r, hc, hF⟩ := zb2_e hF
  obtain ⟨e1, e4⟩ : M2 = M' ∧ r = rv := by cases hF; exact ⟨rfl, rfl⟩
  subst e1
  subst e4
  exact fr_i (c0 := (w_X12_four cA h a M)) (c1 := (w_X12_four cA h a M2)) (rest := []) (by rw [List.append_nil]; exact hw) (by rw [List.append_nil]; exact List.Perm.refl _) (c_X12_would l D cA g sz h a M v1 M2 r hc)
set_option maxHeartbeats 8000000 in
set_option maxRecDepth 100000 in
theorem fm_undo (l : Launch) (D : va_G) (cA : Nat → ClassId) (g : Nat → Nat) (h : Nat) (a : Nat → Nat) (M : Ob)  (M' : Ob) (rv : Int32) (hF : h_undo M  = some (M', rv)) : ∀ (sz : Nat) (w : va_W), MW cA h a M w → Met l yX12_undo wsX12_undo ({ frames := 1, cells := 0, slots := 0, locals := 24 }) (va_Pc [.ref h] (PreN D cA g sz w)) (va_Qi (fun (r : Int32) (_ : va_W) => r = rv) (PostT D cA sz w [] (MW cA h a M')) (va_A w sz)) 0 0 (va_A w sz) := by
  intro sz w hw
  obtain ⟨M2, r, hc, hF⟩ := zb2_e hF
  obtain ⟨e1, e4⟩ : M2 = M' ∧ r = rv := by cases hF; exact ⟨rfl, rfl⟩
  subst e1
  subst e4
  exact fr_i (c0 := (w_X12_four cA h a M)) (c1 := (w_X12_four cA h a M2)) (rest := []) (by rw [List.append_nil]; exact hw) (by rw [List.append_nil]; exact List.Perm.refl _) (c_X12_undo l D cA g sz h a M  M2 r hc)
set_option maxHeartbeats 8000000 in
set_option maxRecDepth 100000 in
theorem fm_image (l : Launch) (D : va_G) (cA : Nat → ClassId) (g : Nat → Nat) (h : Nat) (a : Nat → Nat) (M : Ob) (v1 : Int32) (M' : Ob) (rv : Int32) (hF : h_image M v1 = some (M', rv)) : ∀ (sz : Nat) (w : va_W), MW cA h a M w → Met l yX12_image wsX12_image ({ frames := 1, cells := 0, slots := 0, locals := 24 }) (va_Pc [.ref h, .int v1] (PreN D cA g sz w)) (va_Qi (fun (r : Int32) (_ : va_W) => r = rv) (PostT D cA sz w [] (MW cA h a M')) (va_A w sz)) 0 0 (va_A w sz) := by
  intro sz w hw
  obtain ⟨M2, r, hc, hF⟩ := zb2_e hF
  obtain ⟨e1, e4⟩ : M2 = M' ∧ r = rv := by cases hF; exact ⟨rfl, rfl⟩
  subst e1
  subst e4
  exact fr_i (c0 := (w_X12_four cA h a M)) (c1 := (w_X12_four cA h a M2)) (rest := []) (by rw [List.append_nil]; exact hw) (by rw [List.append_nil]; exact List.Perm.refl _) (c_X12_image l D cA g sz h a M v1 M2 r hc)
set_option maxHeartbeats 8000000 in
set_option maxRecDepth 100000 in
theorem fm_restore (l : Launch) (D : va_G) (cA : Nat → ClassId) (g : Nat → Nat) (h : Nat) (a : Nat → Nat) (M : Ob) (v1 : Int32) (M' : Ob) (rv : Int32) (hF : h_restore M v1 = some (M', rv)) : ∀ (sz : Nat) (w : va_W), MW cA h a M w → Met l yX12_restore wsX12_restore ({ frames := 1, cells := 0, slots := 0, locals := 24 }) (va_Pc [.ref h, .int v1] (PreN D cA g sz w)) (va_Qi (fun (r : Int32) (_ : va_W) => r = rv) (PostT D cA sz w [] (MW cA h a M')) (va_A w sz)) 0 0 (va_A w sz) := by
  intro sz w hw
  obtain ⟨M2, r, hc, hF⟩ := zb2_e hF
  obtain ⟨e1, e4⟩ : M2 = M' ∧ r = rv := by cases hF; exact ⟨rfl, rfl⟩
  subst e1
  subst e4
  exact fr_i (c0 := (w_X12_four cA h a M)) (c1 := (w_X12_four cA h a M2)) (rest := []) (by rw [List.append_nil]; exact hw) (by rw [List.append_nil]; exact List.Perm.refl _) (c_X12_restore l D cA g sz h a M v1 M2 r hc)
