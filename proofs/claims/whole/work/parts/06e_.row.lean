section ZV
variable {p : Program} {l : Launch} {e : Env} {R : Room} {s : State} {m : MethodId} {args : Array Value} {below : List Frame} {meth : Method} {c : Code} {cc : ByteArray} {nL cells slots : Nat} {own : String} {Ts : List Cond} {D : va_G} {cA : Nat → ClassId} {g : Nat → Nat} {A : Nat → Prop} {Q : State → Prop} {ws : va_W} {lv : List (Nat × Value)} {pc : Nat} {st : List Value} {locs : List Loc}
theorem v_ldcwF {T : State} (X : Stand p l e R s m args below meth c T locs cells slots) (hexec : p.tables.exec = Jvm.exec) {own : String} {index : Nat} {v : UInt32} (hown : s.vm.findClass own = some m.cls)
    (hconst : (Cond.constantFloat own index v).before args s = true) {g : JFrame} (hg : g.method = m) (hdg : decode c.code g.pc = .ok (.ldc_w index, 3)) :
    ∀ target, Jvm.Steps p.tables e below (T.setTop { g with pc := g.pc + 3, stack := .float v :: g.stack }) target → Jvm.Steps p.tables e below (T.setTop g) target := by
  obtain ⟨k, cf, hk, hcf, hcp⟩ := Cond.constantFloat_spec hown hconst
  obtain ⟨k', hk', he⟩ := X.warmed.alike.2.2 _ _ hk
  intro target hrest
  subst hg
  jvm_step X.here [hexec, hdg, ldc_w.wp_float (s := T) (f := g) X.here.top hk' (by rw [he]; exact hcf) hcp]
  exact hrest
theorem z_ldcwf (X : ZC p s m args meth c cc nL own Ts D cA g A) {index : Nat} {v : UInt32} (hc : Cond.constantFloat own index v ∈ Ts) (hdg : decode cc pc = .ok (.ldc_w index, 3)) (k : ZW p l e R s m args below meth c D A nL cells slots Q ws lv (pc + 3) (.float v :: st)) : ZW p l e R s m args below meth c D A nL cells slots Q ws lv pc st := by
  intro H locs ls hP hD hS hl T hT XX
  obtain ⟨t, a, b⟩ := k H locs ls hP hD hS hl T hT XX
  exact ⟨t, v_ldcwF XX X.1 X.2.2.2.1 (X.2.2.2.2.1 _ hc) (g := F0 m pc ls st) rfl (by rw [X.2.1]; exact hdg) t a, b⟩
end ZV
