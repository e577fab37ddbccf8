set_option maxHeartbeats 200000 in
theorem t1 : (List.range 71).Perm ([5, 6, 7] ++ ((List.range 5) ++ (List.range' 8 63))) := by decide +kernel
set_option maxHeartbeats 400000 in
theorem t2 (cA : Nat → ClassId) (h : Nat) (A : Nat → Nat → Nat) (V : Nat → Ob) : [2, 3, 4, 5, 6].map (fun i => (wC cA h A V)[i]?) = ([(A 0 0, .inr (6, [.ref (A 1 0), .int (V 1 1 0), .int (V 1 2 0), .int (V 1 3 0), .int (V 1 4 0), .int (V 1 5 0), .int (V 1 6 0), .int (V 1 7 0), .ref (A 1 8), .int (V 1 9 0), .int (V 1 10 0), .ref (A 1 11), .ref (A 1 12), .int (V 1 13 0), .int (V 1 14 0), .int (V 1 15 0), .int (V 1 16 0)]))] : va_W).map some ++ [3, 4, 5, 6].map (fun i => (wC cA h A V)[i]?) := rfl
set_option maxHeartbeats 400000 in
theorem t3 (cA : Nat → ClassId) (h : Nat) (A : Nat → Nat → Nat) (V : Nat → Ob) (o : Ob) : [20, 30, 40, 70].map (fun i => (wC cA h A (vu V 1 o))[i]?) = [20, 30, 40, 70].map (fun i => (wC cA h A V)[i]?) := rfl
