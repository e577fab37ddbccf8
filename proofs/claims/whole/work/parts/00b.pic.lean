def f_J6_bitCount_0f7a4 (v0 : Int32) : Option (Int32) :=
  nx (v0 - ((((Int32.toUInt32 v0) >>> ((Int32.toUInt32 (1 : Int32)) &&& Int32.toUInt32 31)).toInt32) &&& (1431655765 : Int32))) fun x1 =>
  nx ((x1 &&& (858993459 : Int32)) + ((((Int32.toUInt32 x1) >>> ((Int32.toUInt32 (2 : Int32)) &&& Int32.toUInt32 31)).toInt32) &&& (858993459 : Int32))) fun x2 =>
  nx ((x2 + (((Int32.toUInt32 x2) >>> ((Int32.toUInt32 (4 : Int32)) &&& Int32.toUInt32 31)).toInt32)) &&& (252645135 : Int32)) fun x3 =>
  nx (x3 + (((Int32.toUInt32 x3) >>> ((Int32.toUInt32 (8 : Int32)) &&& Int32.toUInt32 31)).toInt32)) fun x4 =>
  nx (x4 + (((Int32.toUInt32 x4) >>> ((Int32.toUInt32 (16 : Int32)) &&& Int32.toUInt32 31)).toInt32)) fun x5 =>
  some (x5 &&& (63 : Int32))
def f_X12_four (o_t : Ob) (v1 : Int32) : Option (Ob) :=
  zb1 (zl2 (fun (o8 : Ob) (k9 : Int32) => (
  if k9 < 0 then (
  some (.inr o8)
  ) else (
  gi (o8 7 0) 440 <|
  nx (sa o8 6 (upd (o8 6) (Int32.toNatClampNeg (o8 7 0)) (vp_nar .byte ((Int32.toInt8 (v1 >>> (k9 &&& 31))).toInt32)))) fun o14 =>
  nx (si o14 7 ((o14 7 0) + (1 : Int32))) fun o15 =>
  nx (k9 + (-8 : Int32)) fun x16 =>
  some (.inl (o15, x16))
  )
  )) FU o_t (24 : Int32)) <| fun (o10 : Ob) =>
  some o10
def f_X12_feed (o_t : Ob) (v1 : Int32) (v2 : Int32) (v3 : Int32) (v4 : Int32) (v5 : Int32) : Option (Ob × Int32) :=
  if (o_t 7 0) + (20 : Int32) ≤ (440 : Int32) then (
  zb1 (f_X12_four o_t v1) fun (o1 : Ob) =>
  zb1 (f_X12_four o1 v2) fun (o3 : Ob) =>
  zb1 (f_X12_four o3 v3) fun (o5 : Ob) =>
  zb1 (f_X12_four o5 v4) fun (o7 : Ob) =>
  zb1 (f_X12_four o7 v5) fun (o9 : Ob) =>
  some (o9, o9 7 0)
  ) else (
  some (o_t, (-1 : Int32))
  )
def f_X12_end (o_t : Ob) (v1 : Int32) : Option (Ob × Int32) :=
  if v1 < 0 then (
  some (o_t, (0 : Int32))
  ) else (
  if v1 ≤ o_t 7 0 then (
  nx (si o_t 7 v1) fun o1 =>
  some (o1, (1 : Int32))
  ) else (
  some (o_t, (0 : Int32))
  )
  )
def f_X12_isIn (v0 : Int32) (v1 : Int32) (v2 : Int32) : Option (Int32) :=
  if v0 < v1 then (
  some (0 : Int32)
  ) else (
  if v2 < v0 then (
  some (0 : Int32)
  ) else (
  some (1 : Int32)
  )
  )
def f_X12_bitOf (v0 : Int32) (v1 : Int32) : Option (Int32) :=
  if (v0 >>> (v1 &&& 31)) &&& (1 : Int32) = (1 : Int32) then (
  some (1 : Int32)
  ) else (
  some (0 : Int32)
  )
def f_X12_ones (v0 : Int32) : Option (Int32) :=
  zb1 (zl2 (fun (k6 : Int32) (k7 : Int32) => (
  if (32 : Int32) ≤ k7 then (
  some (.inr k6)
  ) else (
  nx (k6 + ((v0 >>> (k7 &&& 31)) &&& (1 : Int32))) fun x11 =>
  nx (k7 + (1 : Int32)) fun x12 =>
  some (.inl (x11, x12))
  )
  )) FU (0 : Int32) (0 : Int32)) <| fun (k8 : Int32) =>
  some k8
def f_X12_copies (n_p0 : Nat) (f_p0 : Fn) (n_p2 : Nat) (f_p2 : Fn) (v1 : Int32) (v3 : Int32) : Option (Fn) :=
  zb1 (zl2 (fun (o9 : Fn) (k10 : Int32) => (
  if (835 : Int32) ≤ k10 then (
  some (.inr o9)
  ) else (
  gi (v1 + k10) n_p0 <|
  gi (v3 + k10) n_p2 <|
  nx ((upd (o9) (Int32.toNatClampNeg (v3 + k10)) (f_p0 (Int32.toNatClampNeg (v1 + k10))))) fun o16 =>
  nx (k10 + (1 : Int32)) fun x17 =>
  some (.inl (o16, x17))
  )
  )) FU f_p2 (0 : Int32)) <| fun (o11 : Fn) =>
  some o11
def f_X12_isItem (o_t : Ob) (v1 : Int32) : Option (Int32) :=
  gi (2 : Int32) 835 <|
  zb1 (f_X12_isIn v1 (0 : Int32) ((o_t 0 (Int32.toNatClampNeg (2 : Int32))) - (1 : Int32))) fun (r2 : Int32) =>
  gz r2 <|
  some r2
def f_X12_peek (o_t : Ob) : Option (Int32) :=
  if o_t 8 0 ≤ o_t 9 0 then (
  some (-1 : Int32)
  ) else (
  gi (o_t 9 0) 440 <|
  some ((o_t 6 (Int32.toNatClampNeg (o_t 9 0))) &&& (255 : Int32))
  )
def f_X12_isSmall (v0 : Int32) : Option (Int32) :=
  zb1 (f_X12_isIn v0 (97 : Int32) (122 : Int32)) fun (r1 : Int32) =>
  gz r1 <|
  some r1
def f_X12_isDigit (v0 : Int32) : Option (Int32) :=
  zb1 (f_X12_isIn v0 (48 : Int32) (57 : Int32)) fun (r1 : Int32) =>
  gz r1 <|
  some r1
def f_X12_bad (o_t : Ob) (v1 : Int32) (v2 : Int32) : Option (Ob × Int32) :=
  nx (si o_t 13 v1) fun o1 =>
  nx (si o1 14 v2) fun o2 =>
  some (o2, (0 : Int32))
def f_X12_badHere (o_t : Ob) (v1 : Int32) : Option (Ob × Int32) :=
  zb2 (f_X12_bad o_t v1 (o_t 10 0)) fun (o1 : Ob) (r2 : Int32) =>
  gz r2 <|
  some (o1, r2)
def f_X12_next (o_t : Ob) : Option (Ob) :=
  zb1 (zl1 (fun (o6 : Ob) => (
  zb1 (f_X12_peek o6) fun (r184 : Int32) =>
  if r184 = (32 : Int32) then (
  nx (si o6 9 ((o6 9 0) + (1 : Int32))) fun o186 =>
  some (.inl o186)
  ) else (
  some (.inr o6)
  )
  )) FU o_t) <| fun (o7 : Ob) =>
  nx (si o7 10 (o7 9 0)) fun o8 =>
  zb1 (f_X12_peek o8) fun (r9 : Int32) =>
  nx (si o8 12 r9) fun o11 =>
  if r9 = (-1 : Int32) then (
  nx (si o11 11 (0 : Int32)) fun o180 =>
  some o180
  ) else (
  nx (si o11 9 ((o11 9 0) + (1 : Int32))) fun o12 =>
  zb1 (f_X12_isSmall r9) fun (r13 : Int32) =>
  nx (fun (_ : Unit) => (
  zb1 (f_X12_isSmall r9) fun (r30 : Int32) =>
  nx (fun (j33 : Int32) => (
  zb1 (f_X12_isDigit r9) fun (r35 : Int32) =>
  nx (fun (j38 : Int32) => (
  nx (si o12 12 j38) fun o40 =>
  gi (0 : Int32) 6 <|
  nx (sa o40 15 (upd (o40 15) (Int32.toNatClampNeg (0 : Int32)) (vp_nar .byte ((Int32.toInt8 r9).toInt32)))) fun o42 =>
  zb2 (zl2 (fun (o94 : Ob) (k95 : Int32) => (
  zb1 (f_X12_peek o94) fun (r114 : Int32) =>
  zb1 (f_X12_isSmall r114) fun (r116 : Int32) =>
  nx (fun (_ : Unit) => (
  nx ((o94 9 0) - (o94 10 0)) fun x125 =>
  nx (fun (q131 : Ob) => (
  zb1 (f_X12_peek q131) fun (r133 : Int32) =>
  zb1 (f_X12_isSmall r133) fun (r135 : Int32) =>
  nx (fun (j138 : Int32) => (
  nx (k95 + j138) fun x140 =>
  nx (fun (j144 : Int32) => (
  nx (si q131 12 j144) fun o146 =>
  nx (si o146 9 ((o146 9 0) + (1 : Int32))) fun o147 =>
  some (.inl (o147, x140))
  )) fun K145 =>
  if (2 : Int32) ≤ x125 then (
  K145 (q131 12 0)
  ) else (
  zb1 (f_X12_peek q131) fun (r148 : Int32) =>
  K145 ((((10 : Int32) * (q131 12 0)) + r148) - (48 : Int32))
  )
  )) fun K139 =>
  if r135 = 0 then (
  K139 (0 : Int32)
  ) else (
  K139 (1 : Int32)
  )
  )) fun K132 =>
  if (6 : Int32) ≤ x125 then (
  K132 o94
  ) else (
  zb1 (f_X12_peek o94) fun (r152 : Int32) =>
  gi x125 6 <|
  nx (sa o94 15 (upd (o94 15) (Int32.toNatClampNeg x125) (vp_nar .byte ((Int32.toInt8 r152).toInt32)))) fun o155 =>
  K132 o155
  )
  )) fun K124 =>
  if r116 = 0 then (
  zb1 (f_X12_peek o94) fun (r157 : Int32) =>
  zb1 (f_X12_isDigit r157) fun (r159 : Int32) =>
  if r159 = 0 then (
  some (.inr (o94, k95))
  ) else (
  K124 ()
  )
  ) else (
  K124 ()
  )
  )) FU o42 j33) <| fun (o96 : Ob) (k97 : Int32) =>
  nx ((o96 9 0) - (o96 10 0)) fun x98 =>
  nx (si o96 16 x98) fun o99 =>
  nx (fun (_ : Unit) => (
  if k97 = 0 then (
  if (3 : Int32) ≤ x98 then (
  nx (si o99 11 (4 : Int32)) fun o105 =>
  some o105
  ) else (
  nx (si o99 11 (2 : Int32)) fun o106 =>
  some o106
  )
  ) else (
  nx (si o99 11 (4 : Int32)) fun o104 =>
  some o104
  )
  )) fun K103 =>
  if k97 = x98 then (
  if (7 : Int32) ≤ x98 then (
  K103 ()
  ) else (
  nx (si o99 11 (1 : Int32)) fun o109 =>
  some o109
  )
  ) else (
  K103 ()
  )
  )) fun K39 =>
  if r35 = 0 then (
  K39 (0 : Int32)
  ) else (
  K39 (r9 - (48 : Int32))
  )
  )) fun K34 =>
  if r30 = 0 then (
  K34 (0 : Int32)
  ) else (
  K34 (1 : Int32)
  )
  )) fun K29 =>
  if r13 = 0 then (
  zb1 (f_X12_isDigit r9) fun (r166 : Int32) =>
  if r166 = 0 then (
  nx (fun (_ : Unit) => (
  nx (si o12 11 (3 : Int32)) fun o173 =>
  some o173
  )) fun K172 =>
  if r9 = (59 : Int32) then (
  K172 ()
  ) else (
  if r9 = (91 : Int32) then (
  K172 ()
  ) else (
  if r9 = (93 : Int32) then (
  K172 ()
  ) else (
  nx (si o12 11 (4 : Int32)) fun o174 =>
  some o174
  )
  )
  )
  ) else (
  K29 ()
  )
  ) else (
  K29 ()
  )
  )
def f_X12_isKnown (o_t : Ob) (v1 : Int32) : Option (Int32) :=
  nx (fun (j10 : Int32) => (
  zb1 (zl2 (fun (k22 : Int32) (k23 : Int32) => (
  if o_t 16 0 ≤ k23 then (
  some (.inr k22)
  ) else (
  if k22 = 0 then (
  some (.inr k22)
  ) else (
  gi k23 6 <|
  gi (((5 : Int32) * v1) + k23) 35 <|
  if o_t 15 (Int32.toNatClampNeg k23) = sxK.getD (Int32.toNatClampNeg (((5 : Int32) * v1) + k23)) 0 then (
  nx (k23 + (1 : Int32)) fun x31 =>
  some (.inl ((1 : Int32), x31))
  ) else (
  nx (k23 + (1 : Int32)) fun x30 =>
  some (.inl ((0 : Int32), x30))
  )
  )
  )
  )) FU j10 (0 : Int32)) <| fun (k24 : Int32) =>
  gz k24 <|
  some k24
  )) fun K11 =>
  nx (fun (_ : Unit) => (
  K11 (0 : Int32)
  )) fun K5 =>
  if o_t 11 0 = (1 : Int32) then (
  if v1 = (3 : Int32) then (
  if o_t 16 0 = (5 : Int32) then (
  K11 (1 : Int32)
  ) else (
  K5 ()
  )
  ) else (
  if o_t 16 0 = (4 : Int32) then (
  K11 (1 : Int32)
  ) else (
  K5 ()
  )
  )
  ) else (
  K5 ()
  )
def f_X12_isName (o_t : Ob) : Option (Int32) :=
  nx (fun (j2 : Int32) => (
  zb1 (zl2 (fun (k20 : Int32) (k21 : Int32) => (
  if (4 : Int32) ≤ k21 then (
  some (.inr k20)
  ) else (
  nx (fun (_ : Unit) => (
  nx (k21 + (1 : Int32)) fun x32 =>
  some (.inl ((0 : Int32), x32))
  )) fun K31 =>
  if k20 = 0 then (
  K31 ()
  ) else (
  zb1 (f_X12_isKnown o_t k21) fun (r33 : Int32) =>
  if r33 = 0 then (
  nx (k21 + (1 : Int32)) fun x35 =>
  some (.inl ((1 : Int32), x35))
  ) else (
  K31 ()
  )
  )
  )
  )) FU j2 (0 : Int32)) <| fun (k22 : Int32) =>
  gz k22 <|
  some k22
  )) fun K3 =>
  if o_t 11 0 = (1 : Int32) then (
  K3 (1 : Int32)
  ) else (
  K3 (0 : Int32)
  )
def f_X12_number (o_t : Ob) (v1 : Int32) (v2 : Int32) : Option (Ob × Int32) :=
  if o_t 11 0 = (2 : Int32) then (
  zb1 (f_X12_isIn (o_t 12 0) v1 v2) fun (r1 : Int32) =>
  if r1 = 0 then (
  zb2 (f_X12_badHere o_t (2 : Int32)) fun (o3 : Ob) (r4 : Int32) =>
  if r4 = 0 then (
  some (o3, (0 : Int32))
  ) else (
  some (o3, (1 : Int32))
  )
  ) else (
  some (o_t, (1 : Int32))
  )
  ) else (
  zb2 (f_X12_badHere o_t (1 : Int32)) fun (o8 : Ob) (r9 : Int32) =>
  gz r9 <|
  some (o8, r9)
  )
def f_X12_isSign (o_t : Ob) (v1 : Int32) : Option (Int32) :=
  if o_t 11 0 = (3 : Int32) then (
  if o_t 12 0 = v1 then (
  some (1 : Int32)
  ) else (
  some (0 : Int32)
  )
  ) else (
  some (0 : Int32)
  )
def f_X12_named__s (o_t : Ob) : Option (Int32) :=
  ze0 (zl1 (fun (k40 : Int32) => (
  gi (2 : Int32) 835 <|
  if o_t 0 (Int32.toNatClampNeg (2 : Int32)) ≤ k40 then (
  some (.inr (.inl ()))
  ) else (
  zb1 (zl2 (fun (k59 : Int32) (k60 : Int32) => (
  if (6 : Int32) ≤ k60 then (
  some (.inr k59)
  ) else (
  if k59 = 0 then (
  some (.inr k59)
  ) else (
  gi (((56 : Int32) + ((6 : Int32) * k40)) + k60) 835 <|
  nx (fun (j69 : Int32) => (
  if o_t 0 (Int32.toNatClampNeg (((56 : Int32) + ((6 : Int32) * k40)) + k60)) = j69 then (
  nx (k60 + (1 : Int32)) fun x72 =>
  some (.inl ((1 : Int32), x72))
  ) else (
  nx (k60 + (1 : Int32)) fun x71 =>
  some (.inl ((0 : Int32), x71))
  )
  )) fun K70 =>
  if o_t 16 0 ≤ k60 then (
  K70 (0 : Int32)
  ) else (
  gi k60 6 <|
  K70 (o_t 15 (Int32.toNatClampNeg k60))
  )
  )
  )
  )) FU (1 : Int32) (0 : Int32)) <| fun (k61 : Int32) =>
  if k61 = 0 then (
  nx (k40 + (1 : Int32)) fun x62 =>
  some (.inl x62)
  ) else (
  some (.inr (.inr k40))
  )
  )
  )) FU (0 : Int32)) (fun r => some r) <|
  some (-1 : Int32)
def f_X12_named__spare (o_t : Ob) : Option (Int32) :=
  ze0 (zl1 (fun (k40 : Int32) => (
  gi (2 : Int32) 835 <|
  if o_t 3 (Int32.toNatClampNeg (2 : Int32)) ≤ k40 then (
  some (.inr (.inl ()))
  ) else (
  zb1 (zl2 (fun (k59 : Int32) (k60 : Int32) => (
  if (6 : Int32) ≤ k60 then (
  some (.inr k59)
  ) else (
  if k59 = 0 then (
  some (.inr k59)
  ) else (
  gi (((56 : Int32) + ((6 : Int32) * k40)) + k60) 835 <|
  nx (fun (j69 : Int32) => (
  if o_t 3 (Int32.toNatClampNeg (((56 : Int32) + ((6 : Int32) * k40)) + k60)) = j69 then (
  nx (k60 + (1 : Int32)) fun x72 =>
  some (.inl ((1 : Int32), x72))
  ) else (
  nx (k60 + (1 : Int32)) fun x71 =>
  some (.inl ((0 : Int32), x71))
  )
  )) fun K70 =>
  if o_t 16 0 ≤ k60 then (
  K70 (0 : Int32)
  ) else (
  gi k60 6 <|
  K70 (o_t 15 (Int32.toNatClampNeg k60))
  )
  )
  )
  )) FU (1 : Int32) (0 : Int32)) <| fun (k61 : Int32) =>
  if k61 = 0 then (
  nx (k40 + (1 : Int32)) fun x62 =>
  some (.inl x62)
  ) else (
  some (.inr (.inr k40))
  )
  )
  )) FU (0 : Int32)) (fun r => some r) <|
  some (-1 : Int32)
def f_X12_item (o_t : Ob) : Option (Ob × Int32) :=
  gi (2 : Int32) 835 <|
  if o_t 3 (Int32.toNatClampNeg (2 : Int32)) = (8 : Int32) then (
  zb2 (f_X12_badHere o_t (4 : Int32)) fun (o75 : Ob) (r76 : Int32) =>
  gz r76 <|
  some (o75, r76)
  ) else (
  zb1 (f_X12_next o_t) fun (o2 : Ob) =>
  zb1 (f_X12_isName o2) fun (r4 : Int32) =>
  if r4 = 0 then (
  zb2 (f_X12_badHere o2 (1 : Int32)) fun (o70 : Ob) (r71 : Int32) =>
  gz r71 <|
  some (o70, r71)
  ) else (
  zb1 (f_X12_named__spare o2) fun (r6 : Int32) =>
  if r6 < 0 then (
  gi (2 : Int32) 835 <|
  nx (o2 3 (Int32.toNatClampNeg (2 : Int32))) fun x9 =>
  zb1 (zl2 (fun (o21 : Ob) (k22 : Int32) => (
  if (6 : Int32) ≤ k22 then (
  some (.inr o21)
  ) else (
  if o21 16 0 ≤ k22 then (
  gi (((56 : Int32) + ((6 : Int32) * x9)) + k22) 835 <|
  nx (sa o21 3 (upd (o21 3) (Int32.toNatClampNeg (((56 : Int32) + ((6 : Int32) * x9)) + k22)) (0 : Int32))) fun o56 =>
  nx (k22 + (1 : Int32)) fun x57 =>
  some (.inl (o56, x57))
  ) else (
  gi k22 6 <|
  gi (((56 : Int32) + ((6 : Int32) * x9)) + k22) 835 <|
  nx (sa o21 3 (upd (o21 3) (Int32.toNatClampNeg (((56 : Int32) + ((6 : Int32) * x9)) + k22)) (o21 15 (Int32.toNatClampNeg k22)))) fun o60 =>
  nx (k22 + (1 : Int32)) fun x61 =>
  some (.inl (o60, x61))
  )
  )
  )) FU o2 (0 : Int32)) <| fun (o23 : Ob) =>
  zb1 (f_X12_next o23) fun (o24 : Ob) =>
  zb2 (f_X12_number o24 (1 : Int32) (6 : Int32)) fun (o26 : Ob) (r27 : Int32) =>
  if r27 = 0 then (
  some (o26, (0 : Int32))
  ) else (
  gi ((8 : Int32) + x9) 835 <|
  nx (sa o26 3 (upd (o26 3) (Int32.toNatClampNeg ((8 : Int32) + x9)) (o26 12 0))) fun o30 =>
  zb1 (f_X12_next o30) fun (o31 : Ob) =>
  zb2 (f_X12_number o31 (1 : Int32) (60 : Int32)) fun (o33 : Ob) (r34 : Int32) =>
  if r34 = 0 then (
  some (o33, (0 : Int32))
  ) else (
  gi ((16 : Int32) + x9) 835 <|
  nx (sa o33 3 (upd (o33 3) (Int32.toNatClampNeg ((16 : Int32) + x9)) (o33 12 0))) fun o37 =>
  zb1 (f_X12_next o37) fun (o38 : Ob) =>
  zb2 (f_X12_number o38 (1 : Int32) (20 : Int32)) fun (o40 : Ob) (r41 : Int32) =>
  if r41 = 0 then (
  some (o40, (0 : Int32))
  ) else (
  gi ((24 : Int32) + x9) 835 <|
  nx (sa o40 3 (upd (o40 3) (Int32.toNatClampNeg ((24 : Int32) + x9)) (o40 12 0))) fun o44 =>
  gi (2 : Int32) 835 <|
  gi (2 : Int32) 835 <|
  nx (sa o44 3 (upd (o44 3) (Int32.toNatClampNeg (2 : Int32)) ((o44 3 (Int32.toNatClampNeg (2 : Int32))) + (1 : Int32)))) fun o47 =>
  zb1 (f_X12_next o47) fun (o48 : Ob) =>
  some (o48, (1 : Int32))
  )
  )
  )
  ) else (
  zb2 (f_X12_badHere o2 (3 : Int32)) fun (o65 : Ob) (r66 : Int32) =>
  gz r66 <|
  some (o65, r66)
  )
  )
  )
def f_X12_roomLine (o_t : Ob) : Option (Ob × Int32) :=
  if o_t 17 0 = 0 then (
  nx (si o_t 17 (1 : Int32)) fun o1 =>
  zb1 (f_X12_next o1) fun (o2 : Ob) =>
  zb2 (f_X12_number o2 (1 : Int32) (20 : Int32)) fun (o4 : Ob) (r5 : Int32) =>
  if r5 = 0 then (
  some (o4, (0 : Int32))
  ) else (
  gi (0 : Int32) 835 <|
  nx (sa o4 3 (upd (o4 3) (Int32.toNatClampNeg (0 : Int32)) (o4 12 0))) fun o8 =>
  zb1 (f_X12_next o8) fun (o9 : Ob) =>
  some (o9, (1 : Int32))
  )
  ) else (
  zb2 (f_X12_badHere o_t (3 : Int32)) fun (o12 : Ob) (r13 : Int32) =>
  gz r13 <|
  some (o12, r13)
  )
def f_X12_ruleLine (o_t : Ob) : Option (Ob × Int32) :=
  if o_t 18 0 = 0 then (
  nx (si o_t 18 (1 : Int32)) fun o1 =>
  zb1 (f_X12_next o1) fun (o2 : Ob) =>
  zb1 (zl1 (fun (k11 : Int32) => (
  if (7 : Int32) ≤ k11 then (
  some (.inr k11)
  ) else (
  zb1 (f_X12_isKnown o2 k11) fun (r24 : Int32) =>
  if r24 = 0 then (
  nx (k11 + (1 : Int32)) fun x26 =>
  some (.inl x26)
  ) else (
  some (.inr k11)
  )
  )
  )) FU (4 : Int32)) <| fun (k12 : Int32) =>
  if k12 = (7 : Int32) then (
  zb2 (f_X12_badHere o2 (1 : Int32)) fun (o17 : Ob) (r18 : Int32) =>
  gz r18 <|
  some (o17, r18)
  ) else (
  gi (1 : Int32) 835 <|
  nx (sa o2 3 (upd (o2 3) (Int32.toNatClampNeg (1 : Int32)) (k12 - (4 : Int32)))) fun o14 =>
  zb1 (f_X12_next o14) fun (o15 : Ob) =>
  some (o15, (1 : Int32))
  )
  ) else (
  zb2 (f_X12_badHere o_t (3 : Int32)) fun (o30 : Ob) (r31 : Int32) =>
  gz r31 <|
  some (o30, r31)
  )
def f_X12_readsLine (o_t : Ob) : Option (Ob × Int32) :=
  zb1 (f_X12_isKnown o_t (0 : Int32)) fun (r1 : Int32) =>
  nx (fun (j22 : Int32) (q23 : Ob) => (
  if j22 = 0 then (
  some (q23, (0 : Int32))
  ) else (
  zb1 (f_X12_isSign q23 (59 : Int32)) fun (r25 : Int32) =>
  if r25 = 0 then (
  zb2 (f_X12_badHere q23 (1 : Int32)) fun (o29 : Ob) (r30 : Int32) =>
  gz r30 <|
  some (o29, r30)
  ) else (
  zb1 (f_X12_next q23) fun (o27 : Ob) =>
  some (o27, (1 : Int32))
  )
  )
  )) fun K24 =>
  if r1 = 0 then (
  zb1 (f_X12_isKnown o_t (1 : Int32)) fun (r35 : Int32) =>
  if r35 = 0 then (
  zb1 (f_X12_isKnown o_t (2 : Int32)) fun (r37 : Int32) =>
  if r37 = 0 then (
  zb2 (f_X12_badHere o_t (1 : Int32)) fun (o39 : Ob) (r40 : Int32) =>
  K24 r40 o39
  ) else (
  zb2 (f_X12_item o_t) fun (o42 : Ob) (r43 : Int32) =>
  K24 r43 o42
  )
  ) else (
  zb2 (f_X12_ruleLine o_t) fun (o46 : Ob) (r47 : Int32) =>
  K24 r47 o46
  )
  ) else (
  zb2 (f_X12_roomLine o_t) fun (o50 : Ob) (r51 : Int32) =>
  K24 r51 o50
  )
def f_X12_takes (o_t : Ob) : Option (Ob × Int32) :=
  nx (si o_t 8 (o_t 7 0)) fun o1 =>
  nx (si o1 7 (0 : Int32)) fun o2 =>
  nx (si o2 13 (0 : Int32)) fun o3 =>
  if o3 8 0 ≤ (400 : Int32) then (
  nx (si o3 9 (0 : Int32)) fun o4 =>
  zb1 (f_X12_next o4) fun (o5 : Ob) =>
  some (o5, (1 : Int32))
  ) else (
  zb2 (f_X12_bad o3 (1 : Int32) (400 : Int32)) fun (o7 : Ob) (r8 : Int32) =>
  gz r8 <|
  some (o7, r8)
  )
def f_X12_readsStore (o_t : Ob) : Option (Ob × Int32) :=
  zb2 (f_X12_takes o_t) fun (o1 : Ob) (r2 : Int32) =>
  if r2 = 0 then (
  some (o1, (0 : Int32))
  ) else (
  zb1 (zl2 (fun (o10 : Ob) (k11 : Int32) => (
  if (835 : Int32) ≤ k11 then (
  some (.inr o10)
  ) else (
  gi k11 835 <|
  nx (sa o10 3 (upd (o10 3) (Int32.toNatClampNeg k11) (0 : Int32))) fun o39 =>
  nx (k11 + (1 : Int32)) fun x40 =>
  some (.inl (o39, x40))
  )
  )) FU o1 (0 : Int32)) <| fun (o12 : Ob) =>
  gi (0 : Int32) 835 <|
  nx (sa o12 3 (upd (o12 3) (Int32.toNatClampNeg (0 : Int32)) (6 : Int32))) fun o14 =>
  gi (1 : Int32) 835 <|
  nx (sa o14 3 (upd (o14 3) (Int32.toNatClampNeg (1 : Int32)) (1 : Int32))) fun o16 =>
  nx (si o16 17 (0 : Int32)) fun o17 =>
  nx (si o17 18 (0 : Int32)) fun o18 =>
  ze1 (zl1 (fun (o25 : Ob) => (
  if o25 11 0 = 0 then (
  some (.inr (.inr (o25, (1 : Int32))))
  ) else (
  zb2 (f_X12_readsLine o25) fun (o29 : Ob) (r30 : Int32) =>
  if r30 = 0 then (
  some (.inr (.inl o29))
  ) else (
  some (.inl o29)
  )
  )
  )) FU o18) (fun r => some r) <| fun (o26 : Ob) =>
  some (o26, (0 : Int32))
  )
def f_X12_store (o_t : Ob) : Option (Ob × Int32) :=
  zb2 (f_X12_readsStore o_t) fun (o1 : Ob) (r2 : Int32) =>
  if r2 = 0 then (
  some (o1, (-1000 : Int32) - (o1 14 0))
  ) else (
  zb1 (f_X12_copies 835 (o1 3) 835 (o1 0) (0 : Int32) (0 : Int32)) fun (o4 : Fn) =>
  nx (sa o1 0 o4) fun o6 =>
  nx (si o6 5 (0 : Int32)) fun o7 =>
  gi (2 : Int32) 835 <|
  some (o7, o7 0 (Int32.toNatClampNeg (2 : Int32)))
  )
def f_X12_fault (o_t : Ob) : Option (Int32) :=
  some (o_t 13 0)
def f_X12_call (o_t : Ob) : Option (Ob) :=
  nx (si o_t 21 (0 : Int32)) fun o1 =>
  some o1
def f_X12_gatesOpen (o_t : Ob) : Option (Ob) :=
  nx (fun (q3 : Ob) => (
  nx (si q3 21 (1 : Int32)) fun o5 =>
  ze1 (zl2 (fun (o14 : Ob) (k15 : Int32) => (
  if (5 : Int32) ≤ k15 then (
  some (.inr (.inl o14))
  ) else (
  if o14 20 0 = (60 : Int32) then (
  some (.inr (.inr o14))
  ) else (
  gi (o14 20 0) 60 <|
  nx (sa o14 19 (upd (o14 19) (Int32.toNatClampNeg (o14 20 0)) k15)) fun o20 =>
  nx (si o20 20 ((o20 20 0) + (1 : Int32))) fun o21 =>
  nx (k15 + (1 : Int32)) fun x22 =>
  some (.inl (o21, x22))
  )
  )
  )) FU o5 (1 : Int32)) (fun r => some r) <| fun (o16 : Ob) =>
  some o16
  )) fun K4 =>
  if o_t 21 0 = 0 then (
  nx (si o_t 20 (0 : Int32)) fun o27 =>
  K4 o27
  ) else (
  K4 o_t
  )
def f_X12_gate (o_t : Ob) (v1 : Int32) : Option (Int32) :=
  zb1 (f_X12_isIn v1 (0 : Int32) ((o_t 20 0) - (1 : Int32))) fun (r1 : Int32) =>
  if r1 = 0 then (
  some (-1 : Int32)
  ) else (
  gi v1 60 <|
  some (o_t 19 (Int32.toNatClampNeg v1))
  )
def f_X12_isTaken (v0 : Int32) (v1 : Int32) : Option (Int32) :=
  if v0 = 0 then (
  some (1 : Int32)
  ) else (
  nx (fun (_ : Unit) => (
  nx (fun (_ : Unit) => (
  if v0 = (3 : Int32) then (
  if v1 = (3 : Int32) then (
  some (1 : Int32)
  ) else (
  some (0 : Int32)
  )
  ) else (
  some (0 : Int32)
  )
  )) fun K6 =>
  if v0 = (2 : Int32) then (
  if (1 : Int32) < v1 then (
  some (1 : Int32)
  ) else (
  K6 ()
  )
  ) else (
  K6 ()
  )
  )) fun K3 =>
  if v0 = (1 : Int32) then (
  if v1 < (2 : Int32) then (
  some (1 : Int32)
  ) else (
  K3 ()
  )
  ) else (
  K3 ()
  )
  )
def f_X12_entry (o_t : Ob) (v1 : Int32) (v2 : Int32) (v3 : Int32) : Option (Ob) :=
  zb1 (zl2 (fun (o38 : Ob) (k39 : Int32) => (
  if (3 : Int32) ≤ k39 then (
  some (.inr o38)
  ) else (
  nx ((544 : Int32) + ((7 : Int32) * k39)) fun x43 =>
  gi x43 835 <|
  if o38 0 (Int32.toNatClampNeg x43) = 0 then (
  nx (k39 + (1 : Int32)) fun x75 =>
  some (.inl (o38, x75))
  ) else (
  gi (x43 + (3 : Int32)) 835 <|
  gi (x43 + (2 : Int32)) 835 <|
  if o38 0 (Int32.toNatClampNeg (x43 + (3 : Int32))) = o38 0 (Int32.toNatClampNeg (x43 + (2 : Int32))) then (
  gi (x43 + (5 : Int32)) 835 <|
  gi (x43 + (5 : Int32)) 835 <|
  nx (sa o38 0 (upd (o38 0) (Int32.toNatClampNeg (x43 + (5 : Int32))) ((o38 0 (Int32.toNatClampNeg (x43 + (5 : Int32)))) + (1 : Int32)))) fun o72 =>
  nx (k39 + (1 : Int32)) fun x73 =>
  some (.inl (o72, x73))
  ) else (
  gi (x43 + (1 : Int32)) 835 <|
  zb1 (f_X12_isTaken (o38 0 (Int32.toNatClampNeg (x43 + (1 : Int32)))) v1) fun (r48 : Int32) =>
  if r48 = 0 then (
  gi (x43 + (4 : Int32)) 835 <|
  gi (x43 + (4 : Int32)) 835 <|
  nx (sa o38 0 (upd (o38 0) (Int32.toNatClampNeg (x43 + (4 : Int32))) ((o38 0 (Int32.toNatClampNeg (x43 + (4 : Int32)))) + (1 : Int32)))) fun o67 =>
  nx (k39 + (1 : Int32)) fun x68 =>
  some (.inl (o67, x68))
  ) else (
  gi (x43 + (3 : Int32)) 835 <|
  nx (((565 : Int32) + ((90 : Int32) * k39)) + ((3 : Int32) * (o38 0 (Int32.toNatClampNeg (x43 + (3 : Int32)))))) fun x51 =>
  gi x51 835 <|
  nx (sa o38 0 (upd (o38 0) (Int32.toNatClampNeg x51) v1)) fun o53 =>
  gi (x51 + (1 : Int32)) 835 <|
  nx (sa o53 0 (upd (o53 0) (Int32.toNatClampNeg (x51 + (1 : Int32))) v2)) fun o55 =>
  gi (x51 + (2 : Int32)) 835 <|
  nx (sa o55 0 (upd (o55 0) (Int32.toNatClampNeg (x51 + (2 : Int32))) v3)) fun o57 =>
  gi (x43 + (3 : Int32)) 835 <|
  gi (x43 + (3 : Int32)) 835 <|
  nx (sa o57 0 (upd (o57 0) (Int32.toNatClampNeg (x43 + (3 : Int32))) ((o57 0 (Int32.toNatClampNeg (x43 + (3 : Int32)))) + (1 : Int32)))) fun o60 =>
  gi (x43 + (6 : Int32)) 835 <|
  gi (x43 + (6 : Int32)) 835 <|
  nx (sa o60 0 (upd (o60 0) (Int32.toNatClampNeg (x43 + (6 : Int32))) ((o60 0 (Int32.toNatClampNeg (x43 + (6 : Int32)))) + v3))) fun o63 =>
  nx (k39 + (1 : Int32)) fun x64 =>
  some (.inl (o63, x64))
  )
  )
  )
  )
  )) FU o_t (0 : Int32)) <| fun (o40 : Ob) =>
  some o40
def f_X12_book (o_t : Ob) (v1 : Int32) (v2 : Int32) (v3 : Int32) : Option (Ob × Int32) :=
  zb1 (f_X12_isIn v1 (0 : Int32) (2 : Int32)) fun (r1 : Int32) =>
  if r1 = 0 then (
  some (o_t, (-1 : Int32))
  ) else (
  zb1 (f_X12_isIn v2 (0 : Int32) (3 : Int32)) fun (r3 : Int32) =>
  if r3 = 0 then (
  some (o_t, (-1 : Int32))
  ) else (
  zb1 (f_X12_isIn v3 (0 : Int32) (30 : Int32)) fun (r5 : Int32) =>
  if r5 = 0 then (
  some (o_t, (-1 : Int32))
  ) else (
  nx ((544 : Int32) + ((7 : Int32) * v1)) fun x7 =>
  zb1 (zl2 (fun (o14 : Ob) (k15 : Int32) => (
  if (7 : Int32) ≤ k15 then (
  some (.inr o14)
  ) else (
  gi (x7 + k15) 835 <|
  nx (sa o14 0 (upd (o14 0) (Int32.toNatClampNeg (x7 + k15)) (0 : Int32))) fun o26 =>
  nx (k15 + (1 : Int32)) fun x27 =>
  some (.inl (o26, x27))
  )
  )) FU o_t (0 : Int32)) <| fun (o16 : Ob) =>
  gi x7 835 <|
  nx (sa o16 0 (upd (o16 0) (Int32.toNatClampNeg x7) (1 : Int32))) fun o18 =>
  gi (x7 + (1 : Int32)) 835 <|
  nx (sa o18 0 (upd (o18 0) (Int32.toNatClampNeg (x7 + (1 : Int32))) v2)) fun o20 =>
  gi (x7 + (2 : Int32)) 835 <|
  nx (sa o20 0 (upd (o20 0) (Int32.toNatClampNeg (x7 + (2 : Int32))) v3)) fun o22 =>
  some (o22, (0 : Int32))
  )
  )
  )
def f_X12_isOpened (o_t : Ob) (v1 : Int32) : Option (Int32) :=
  zb1 (f_X12_isIn v1 (0 : Int32) (2 : Int32)) fun (r1 : Int32) =>
  if r1 = 0 then (
  some (0 : Int32)
  ) else (
  gi ((544 : Int32) + ((7 : Int32) * v1)) 835 <|
  if o_t 0 (Int32.toNatClampNeg ((544 : Int32) + ((7 : Int32) * v1))) = (1 : Int32) then (
  some (1 : Int32)
  ) else (
  some (0 : Int32)
  )
  )
def f_X12_booked (o_t : Ob) (v1 : Int32) (v2 : Int32) : Option (Int32) :=
  zb1 (f_X12_isOpened o_t v1) fun (r1 : Int32) =>
  if r1 = 0 then (
  some (-1 : Int32)
  ) else (
  nx ((544 : Int32) + ((7 : Int32) * v1)) fun x3 =>
  if v2 = (0 : Int32) then (
  gi (x3 + (3 : Int32)) 835 <|
  some (o_t 0 (Int32.toNatClampNeg (x3 + (3 : Int32))))
  ) else (
  if v2 = (1 : Int32) then (
  gi (x3 + (4 : Int32)) 835 <|
  some (o_t 0 (Int32.toNatClampNeg (x3 + (4 : Int32))))
  ) else (
  if v2 = (2 : Int32) then (
  gi (x3 + (5 : Int32)) 835 <|
  some (o_t 0 (Int32.toNatClampNeg (x3 + (5 : Int32))))
  ) else (
  if v2 = (3 : Int32) then (
  gi (x3 + (6 : Int32)) 835 <|
  some (o_t 0 (Int32.toNatClampNeg (x3 + (6 : Int32))))
  ) else (
  if v2 = (4 : Int32) then (
  gi (x3 + (1 : Int32)) 835 <|
  some (o_t 0 (Int32.toNatClampNeg (x3 + (1 : Int32))))
  ) else (
  if v2 = (5 : Int32) then (
  gi (x3 + (2 : Int32)) 835 <|
  some (o_t 0 (Int32.toNatClampNeg (x3 + (2 : Int32))))
  ) else (
  some (-1 : Int32)
  ))))))
  )
def f_X12_line (o_t : Ob) (v1 : Int32) (v2 : Int32) (v3 : Int32) : Option (Int32) :=
  zb1 (f_X12_isOpened o_t v1) fun (r1 : Int32) =>
  if r1 = 0 then (
  some (-1 : Int32)
  ) else (
  gi (((544 : Int32) + ((7 : Int32) * v1)) + (3 : Int32)) 835 <|
  zb1 (f_X12_isIn v2 (0 : Int32) ((o_t 0 (Int32.toNatClampNeg (((544 : Int32) + ((7 : Int32) * v1)) + (3 : Int32)))) - (1 : Int32))) fun (r4 : Int32) =>
  if r4 = 0 then (
  some (-1 : Int32)
  ) else (
  zb1 (f_X12_isIn v3 (0 : Int32) (2 : Int32)) fun (r6 : Int32) =>
  if r6 = 0 then (
  some (-1 : Int32)
  ) else (
  gi ((((565 : Int32) + ((90 : Int32) * v1)) + ((3 : Int32) * v2)) + v3) 835 <|
  some (o_t 0 (Int32.toNatClampNeg ((((565 : Int32) + ((90 : Int32) * v1)) + ((3 : Int32) * v2)) + v3)))
  )
  )
  )
def f_X12_lies (o_t : Ob) : Option (Int32) :=
  zb1 (zl2 (fun (k17 : Int32) (k18 : Int32) => (
  gi (2 : Int32) 835 <|
  if o_t 0 (Int32.toNatClampNeg (2 : Int32)) ≤ k18 then (
  some (.inr k17)
  ) else (
  gi (3 : Int32) 835 <|
  zb1 (f_X12_bitOf (o_t 0 (Int32.toNatClampNeg (3 : Int32))) k18) fun (r24 : Int32) =>
  nx (fun (j28 : Int32) => (
  nx (k17 + j28) fun x30 =>
  nx (k18 + (1 : Int32)) fun x31 =>
  some (.inl (x30, x31))
  )) fun K29 =>
  if r24 = 0 then (
  K29 (0 : Int32)
  ) else (
  gi ((8 : Int32) + k18) 835 <|
  K29 (o_t 0 (Int32.toNatClampNeg ((8 : Int32) + k18)))
  )
  )
  )) FU (0 : Int32) (0 : Int32)) <| fun (k19 : Int32) =>
  some k19
def f_X12_down (o_t : Ob) (v1 : Int32) : Option (Ob) :=
  gi (3 : Int32) 835 <|
  gi (3 : Int32) 835 <|
  nx (sa o_t 0 (upd (o_t 0) (Int32.toNatClampNeg (3 : Int32)) ((o_t 0 (Int32.toNatClampNeg (3 : Int32))) &&& (((1 : Int32) <<< (v1 &&& 31)) ^^^ (-1 : Int32))))) fun o3 =>
  gi ((32 : Int32) + v1) 835 <|
  nx (sa o3 0 (upd (o3 0) (Int32.toNatClampNeg ((32 : Int32) + v1)) (0 : Int32))) fun o5 =>
  gi (5 : Int32) 835 <|
  gi (5 : Int32) 835 <|
  nx (sa o5 0 (upd (o5 0) (Int32.toNatClampNeg (5 : Int32)) ((o5 0 (Int32.toNatClampNeg (5 : Int32))) + (1 : Int32)))) fun o8 =>
  gi ((8 : Int32) + v1) 835 <|
  zb1 (f_X12_entry o8 (2 : Int32) v1 (o8 0 (Int32.toNatClampNeg ((8 : Int32) + v1)))) fun (o10 : Ob) =>
  zb1 (f_X12_gatesOpen o10) fun (o12 : Ob) =>
  some o12
def f_X12_up (o_t : Ob) (v1 : Int32) : Option (Ob) :=
  gi (3 : Int32) 835 <|
  gi (3 : Int32) 835 <|
  nx (sa o_t 0 (upd (o_t 0) (Int32.toNatClampNeg (3 : Int32)) ((o_t 0 (Int32.toNatClampNeg (3 : Int32))) ||| ((1 : Int32) <<< (v1 &&& 31))))) fun o3 =>
  gi ((16 : Int32) + v1) 835 <|
  gi ((8 : Int32) + v1) 835 <|
  gn (o3 0 (Int32.toNatClampNeg ((8 : Int32) + v1))) <|
  gi ((32 : Int32) + v1) 835 <|
  nx (sa o3 0 (upd (o3 0) (Int32.toNatClampNeg ((32 : Int32) + v1)) (((60 : Int32) * (o3 0 (Int32.toNatClampNeg ((16 : Int32) + v1)))) / (o3 0 (Int32.toNatClampNeg ((8 : Int32) + v1)))))) fun o8 =>
  gi ((40 : Int32) + v1) 835 <|
  nx (sa o8 0 (upd (o8 0) (Int32.toNatClampNeg ((40 : Int32) + v1)) (0 : Int32))) fun o10 =>
  gi (6 : Int32) 835 <|
  gi (6 : Int32) 835 <|
  nx (sa o10 0 (upd (o10 0) (Int32.toNatClampNeg (6 : Int32)) ((o10 0 (Int32.toNatClampNeg (6 : Int32))) + (1 : Int32)))) fun o13 =>
  gi (4 : Int32) 835 <|
  gi ((16 : Int32) + v1) 835 <|
  gi (4 : Int32) 835 <|
  nx (sa o13 0 (upd (o13 0) (Int32.toNatClampNeg (4 : Int32)) ((o13 0 (Int32.toNatClampNeg (4 : Int32))) + (o13 0 (Int32.toNatClampNeg ((16 : Int32) + v1)))))) fun o17 =>
  gi ((16 : Int32) + v1) 835 <|
  zb1 (f_X12_entry o17 (3 : Int32) v1 (o17 0 (Int32.toNatClampNeg ((16 : Int32) + v1)))) fun (o19 : Ob) =>
  zb1 (f_X12_gatesOpen o19) fun (o21 : Ob) =>
  some o21
def f_X12_least (o_t : Ob) : Option (Int32) :=
  zb1 (zl2 (fun (k23 : Int32) (k24 : Int32) => (
  gi (2 : Int32) 835 <|
  if o_t 0 (Int32.toNatClampNeg (2 : Int32)) ≤ k24 then (
  some (.inr k23)
  ) else (
  gi (3 : Int32) 835 <|
  zb1 (f_X12_bitOf (o_t 0 (Int32.toNatClampNeg (3 : Int32))) k24) fun (r30 : Int32) =>
  if r30 = 0 then (
  nx (k24 + (1 : Int32)) fun x32 =>
  some (.inl (k23, x32))
  ) else (
  nx (fun (_ : Unit) => (
  nx (k24 + (1 : Int32)) fun x39 =>
  some (.inl (k24, x39))
  )) fun K38 =>
  if k23 < 0 then (
  K38 ()
  ) else (
  gi ((32 : Int32) + k24) 835 <|
  gi ((32 : Int32) + k23) 835 <|
  if o_t 0 (Int32.toNatClampNeg ((32 : Int32) + k23)) ≤ o_t 0 (Int32.toNatClampNeg ((32 : Int32) + k24)) then (
  nx (k24 + (1 : Int32)) fun x42 =>
  some (.inl (k23, x42))
  ) else (
  K38 ()
  )
  )
  )
  )
  )) FU (-1 : Int32) (0 : Int32)) <| fun (k25 : Int32) =>
  some k25
def f_X12_way (o_t : Ob) (v1 : Int32) : Option (Ob) :=
  zb1 (zl1 (fun (o50 : Ob) => (
  gi (0 : Int32) 835 <|
  zb1 (f_X12_lies o50) fun (r55 : Int32) =>
  if v1 ≤ (o50 0 (Int32.toNatClampNeg (0 : Int32))) - r55 then (
  some (.inr o50)
  ) else (
  zb1 (f_X12_least o50) fun (r57 : Int32) =>
  gi ((32 : Int32) + r57) 835 <|
  nx (o50 0 (Int32.toNatClampNeg ((32 : Int32) + r57))) fun x60 =>
  nx (fun (q64 : Ob) => (
  zb1 (zl2 (fun (o80 : Ob) (k81 : Int32) => (
  gi (2 : Int32) 835 <|
  if o80 0 (Int32.toNatClampNeg (2 : Int32)) ≤ k81 then (
  some (.inr o80)
  ) else (
  if x60 ≤ 0 then (
  some (.inr o80)
  ) else (
  gi (3 : Int32) 835 <|
  zb1 (f_X12_bitOf (o80 0 (Int32.toNatClampNeg (3 : Int32))) k81) fun (r87 : Int32) =>
  if r87 = 0 then (
  nx (k81 + (1 : Int32)) fun x89 =>
  some (.inl (o80, x89))
  ) else (
  gi ((32 : Int32) + k81) 835 <|
  gi ((32 : Int32) + k81) 835 <|
  nx (sa o80 0 (upd (o80 0) (Int32.toNatClampNeg ((32 : Int32) + k81)) ((o80 0 (Int32.toNatClampNeg ((32 : Int32) + k81))) - x60))) fun o92 =>
  nx (k81 + (1 : Int32)) fun x93 =>
  some (.inl (o92, x93))
  )
  )
  )
  )) FU q64 (0 : Int32)) <| fun (o82 : Ob) =>
  some (.inl o82)
  )) fun K65 =>
  if x60 = 0 then (
  zb1 (f_X12_down o50 r57) fun (o98 : Ob) =>
  K65 o98
  ) else (
  K65 o50
  )
  )
  )) FU o_t) <| fun (o51 : Ob) =>
  some o51
def f_Jxf58ca_isNaN_12338 (v0 : UInt32) : Option (Int32) :=
  if Op.cmpValue (FP.fcmp v0 v0) .l = 0 then (
  some (0 : Int32)
  ) else (
  some (1 : Int32)
  )
def f_Jxf58ca_floatToIntBits_5c35a (v0 : UInt32) : Option (Int32) :=
  zb1 (f_Jxf58ca_isNaN_12338 v0) fun (r1 : Int32) =>
  if r1 = 0 then (
  some (UInt32.toInt32 v0)
  ) else (
  some (2143289344 : Int32)
  )
def f_X12_heats (o_t : Ob) (v1 : Int32) : Option (Ob) :=
  zb1 (zl2 (fun (o22 : Ob) (k23 : Int32) => (
  gi (2 : Int32) 835 <|
  if o22 0 (Int32.toNatClampNeg (2 : Int32)) ≤ k23 then (
  some (.inr o22)
  ) else (
  gi ((48 : Int32) + k23) 835 <|
  gb (o22 0 (Int32.toNatClampNeg ((48 : Int32) + k23))) <|
  gq (FP.fmul (Int32.toUInt32 (o22 0 (Int32.toNatClampNeg ((48 : Int32) + k23)))) (1063256064 : UInt32)) <|
  nx (FP.fmul (Int32.toUInt32 (o22 0 (Int32.toNatClampNeg ((48 : Int32) + k23)))) (1063256064 : UInt32)) fun x31 =>
  nx (fun (j35 : UInt32) => (
  zb1 (f_Jxf58ca_floatToIntBits_5c35a j35) fun (r37 : Int32) =>
  gi ((48 : Int32) + k23) 835 <|
  nx (sa o22 0 (upd (o22 0) (Int32.toNatClampNeg ((48 : Int32) + k23)) r37)) fun o40 =>
  nx (k23 + (1 : Int32)) fun x41 =>
  some (.inl (o40, x41))
  )) fun K36 =>
  if k23 = v1 then (
  gq (FP.fadd x31 FP.fconst1) <|
  nx (FP.fadd x31 FP.fconst1) fun x43 =>
  K36 x43
  ) else (
  K36 x31
  )
  )
  )) FU o_t (0 : Int32)) <| fun (o24 : Ob) =>
  some o24
def f_X12_isUp (o_t : Ob) (v1 : Int32) : Option (Int32) :=
  gi (1 : Int32) 835 <|
  if o_t 0 (Int32.toNatClampNeg (1 : Int32)) = 0 then (
  some (1 : Int32)
  ) else (
  gi (1 : Int32) 835 <|
  if o_t 0 (Int32.toNatClampNeg (1 : Int32)) = (1 : Int32) then (
  gi ((40 : Int32) + v1) 835 <|
  gi ((16 : Int32) + v1) 835 <|
  if o_t 0 (Int32.toNatClampNeg ((40 : Int32) + v1)) < o_t 0 (Int32.toNatClampNeg ((16 : Int32) + v1)) then (
  some (0 : Int32)
  ) else (
  some (1 : Int32)
  )
  ) else (
  gi ((48 : Int32) + v1) 835 <|
  gb (o_t 0 (Int32.toNatClampNeg ((48 : Int32) + v1))) <|
  gi ((24 : Int32) + v1) 835 <|
  gq (FP.fmul (Int32.toUInt32 (o_t 0 (Int32.toNatClampNeg ((48 : Int32) + v1)))) (FP.i2f (o_t 0 (Int32.toNatClampNeg ((24 : Int32) + v1))))) <|
  gi ((16 : Int32) + v1) 835 <|
  if Op.cmpValue (FP.fcmp (FP.fmul (Int32.toUInt32 (o_t 0 (Int32.toNatClampNeg ((48 : Int32) + v1)))) (FP.i2f (o_t 0 (Int32.toNatClampNeg ((24 : Int32) + v1))))) (FP.i2f (o_t 0 (Int32.toNatClampNeg ((16 : Int32) + v1))))) .l < 0 then (
  some (0 : Int32)
  ) else (
  some (1 : Int32)
  )
  )
  )
def f_X12_asks (o_t : Ob) (v1 : Int32) : Option (Ob × Int32) :=
  zb1 (f_X12_heats o_t v1) fun (o1 : Ob) =>
  gi (3 : Int32) 835 <|
  zb1 (f_X12_bitOf (o1 0 (Int32.toNatClampNeg (3 : Int32))) v1) fun (r4 : Int32) =>
  if r4 = 0 then (
  gi ((8 : Int32) + v1) 835 <|
  gi (0 : Int32) 835 <|
  nx (fun (j9 : Int32) => (
  gi (4 : Int32) 835 <|
  nx (o1 0 (Int32.toNatClampNeg (4 : Int32))) fun x12 =>
  nx (fun (q34 : Ob) => (
  nx (fun (q45 : Ob) => (
  gi (4 : Int32) 835 <|
  some (q45, (q45 0 (Int32.toNatClampNeg (4 : Int32))) - x12)
  )) fun K46 =>
  if j9 = 0 then (
  zb1 (f_X12_isUp q34 v1) fun (r48 : Int32) =>
  if r48 = 0 then (
  K46 q34
  ) else (
  gi ((8 : Int32) + v1) 835 <|
  zb1 (f_X12_way q34 (q34 0 (Int32.toNatClampNeg ((8 : Int32) + v1)))) fun (o51 : Ob) =>
  zb1 (f_X12_up o51 v1) fun (o53 : Ob) =>
  K46 o53
  )
  ) else (
  K46 q34
  )
  )) fun K35 =>
  nx (fun (_ : Unit) => (
  gi (4 : Int32) 835 <|
  gi ((24 : Int32) + v1) 835 <|
  gi (4 : Int32) 835 <|
  nx (sa o1 0 (upd (o1 0) (Int32.toNatClampNeg (4 : Int32)) ((o1 0 (Int32.toNatClampNeg (4 : Int32))) + (o1 0 (Int32.toNatClampNeg ((24 : Int32) + v1)))))) fun o60 =>
  gi ((24 : Int32) + v1) 835 <|
  zb1 (f_X12_entry o60 (1 : Int32) v1 (o60 0 (Int32.toNatClampNeg ((24 : Int32) + v1)))) fun (o62 : Ob) =>
  if j9 = 0 then (
  gi (1 : Int32) 835 <|
  if o62 0 (Int32.toNatClampNeg (1 : Int32)) = (1 : Int32) then (
  gi ((40 : Int32) + v1) 835 <|
  gi ((24 : Int32) + v1) 835 <|
  gi ((40 : Int32) + v1) 835 <|
  nx (sa o62 0 (upd (o62 0) (Int32.toNatClampNeg ((40 : Int32) + v1)) ((o62 0 (Int32.toNatClampNeg ((40 : Int32) + v1))) + (o62 0 (Int32.toNatClampNeg ((24 : Int32) + v1)))))) fun o68 =>
  K35 o68
  ) else (
  K35 o62
  )
  ) else (
  K35 o62
  )
  )) fun K16 =>
  if j9 = 0 then (
  gi (1 : Int32) 835 <|
  if o1 0 (Int32.toNatClampNeg (1 : Int32)) ≤ 0 then (
  K35 o1
  ) else (
  K16 ()
  )
  ) else (
  K16 ()
  )
  )) fun K10 =>
  if o1 0 (Int32.toNatClampNeg ((8 : Int32) + v1)) ≤ o1 0 (Int32.toNatClampNeg (0 : Int32)) then (
  K10 (0 : Int32)
  ) else (
  K10 (1 : Int32)
  )
  ) else (
  gi ((16 : Int32) + v1) 835 <|
  gi ((8 : Int32) + v1) 835 <|
  gn (o1 0 (Int32.toNatClampNeg ((8 : Int32) + v1))) <|
  gi ((32 : Int32) + v1) 835 <|
  nx (sa o1 0 (upd (o1 0) (Int32.toNatClampNeg ((32 : Int32) + v1)) (((60 : Int32) * (o1 0 (Int32.toNatClampNeg ((16 : Int32) + v1)))) / (o1 0 (Int32.toNatClampNeg ((8 : Int32) + v1)))))) fun o79 =>
  zb1 (f_X12_entry o79 (0 : Int32) v1 (0 : Int32)) fun (o80 : Ob) =>
  some (o80, (0 : Int32))
  )
def f_X12_logs (o_t : Ob) (v1 : Int32) : Option (Ob × Int32) :=
  zb2 (f_X12_asks o_t v1) fun (o1 : Ob) (r2 : Int32) =>
  gi (7 : Int32) 835 <|
  nx (o1 0 (Int32.toNatClampNeg (7 : Int32))) fun x5 =>
  gi ((104 : Int32) + x5) 835 <|
  nx (sa o1 0 (upd (o1 0) (Int32.toNatClampNeg ((104 : Int32) + x5)) v1)) fun o7 =>
  gi ((144 : Int32) + x5) 835 <|
  nx (sa o7 0 (upd (o7 0) (Int32.toNatClampNeg ((144 : Int32) + x5)) r2)) fun o9 =>
  gi (3 : Int32) 835 <|
  gi ((184 : Int32) + x5) 835 <|
  nx (sa o9 0 (upd (o9 0) (Int32.toNatClampNeg ((184 : Int32) + x5)) (o9 0 (Int32.toNatClampNeg (3 : Int32))))) fun o12 =>
  zb1 (zl2 (fun (o20 : Ob) (k21 : Int32) => (
  if (8 : Int32) ≤ k21 then (
  some (.inr o20)
  ) else (
  gi ((32 : Int32) + k21) 835 <|
  gi (((224 : Int32) + ((8 : Int32) * x5)) + k21) 835 <|
  nx (sa o20 0 (upd (o20 0) (Int32.toNatClampNeg (((224 : Int32) + ((8 : Int32) * x5)) + k21)) (o20 0 (Int32.toNatClampNeg ((32 : Int32) + k21))))) fun o30 =>
  nx (k21 + (1 : Int32)) fun x31 =>
  some (.inl (o30, x31))
  )
  )) FU o12 (0 : Int32)) <| fun (o22 : Ob) =>
  gi (7 : Int32) 835 <|
  gi (7 : Int32) 835 <|
  nx (sa o22 0 (upd (o22 0) (Int32.toNatClampNeg (7 : Int32)) ((o22 0 (Int32.toNatClampNeg (7 : Int32))) + (1 : Int32)))) fun o25 =>
  some (o25, r2)
def f_X12_keeps (o_t : Ob) : Option (Ob) :=
  nx (fun (q21 : Ob) => (
  zb1 (f_X12_copies 835 (q21 0) 6680 (q21 2) (0 : Int32) ((835 : Int32) * (q21 5 0))) fun (o23 : Fn) =>
  nx (sa q21 2 o23) fun o25 =>
  nx (si o25 5 ((o25 5 0) + (1 : Int32))) fun o26 =>
  some o26
  )) fun K22 =>
  if o_t 5 0 = (8 : Int32) then (
  zb1 (zl2 (fun (o34 : Ob) (k35 : Int32) => (
  if (5845 : Int32) ≤ k35 then (
  some (.inr o34)
  ) else (
  gi (k35 + (835 : Int32)) 6680 <|
  gi k35 6680 <|
  nx (sa o34 2 (upd (o34 2) (Int32.toNatClampNeg k35) (o34 2 (Int32.toNatClampNeg (k35 + (835 : Int32)))))) fun o42 =>
  nx (k35 + (1 : Int32)) fun x43 =>
  some (.inl (o42, x43))
  )
  )) FU o_t (0 : Int32)) <| fun (o36 : Ob) =>
  nx (si o36 5 ((o36 5 0) - (1 : Int32))) fun o37 =>
  K22 o37
  ) else (
  K22 o_t
  )
def f_X12_undo (o_t : Ob) : Option (Ob × Int32) :=
  if o_t 5 0 = 0 then (
  some (o_t, (-1 : Int32))
  ) else (
  nx (si o_t 5 ((o_t 5 0) - (1 : Int32))) fun o1 =>
  zb1 (f_X12_copies 6680 (o1 2) 835 (o1 0) ((835 : Int32) * (o1 5 0)) (0 : Int32)) fun (o2 : Fn) =>
  nx (sa o1 0 o2) fun o4 =>
  some (o4, o4 5 0)
  )
def f_X12_request (o_t : Ob) (v1 : Int32) : Option (Ob × Int32) :=
  zb1 (f_X12_isItem o_t v1) fun (r1 : Int32) =>
  if r1 = 0 then (
  some (o_t, (-2 : Int32))
  ) else (
  gi (7 : Int32) 835 <|
  if o_t 0 (Int32.toNatClampNeg (7 : Int32)) = (40 : Int32) then (
  some (o_t, (-3 : Int32))
  ) else (
  zb1 (f_X12_call o_t) fun (o4 : Ob) =>
  zb1 (f_X12_keeps o4) fun (o6 : Ob) =>
  zb2 (f_X12_logs o6 v1) fun (o8 : Ob) (r9 : Int32) =>
  some (o8, r9)
  )
  )
def f_X12_readsSteps (o_t : Ob) : Option (Ob × Int32) :=
  zb2 (f_X12_takes o_t) fun (o1 : Ob) (r2 : Int32) =>
  if r2 = 0 then (
  some (o1, (0 : Int32))
  ) else (
  nx (si o1 26 (0 : Int32)) fun o4 =>
  nx (si o4 27 (0 : Int32)) fun o5 =>
  ze1 (zl1 (fun (o103 : Ob) => (
  nx (fun (_ : Unit) => (
  nx (fun (_ : Unit) => (
  zb1 (f_X12_isKnown o103 (3 : Int32)) fun (r130 : Int32) =>
  if r130 = 0 then (
  zb1 (f_X12_isName o103) fun (r132 : Int32) =>
  if r132 = 0 then (
  zb2 (f_X12_badHere o103 (1 : Int32)) fun (o155 : Ob) (r156 : Int32) =>
  gz r156 <|
  some (.inr (.inr (o155, r156)))
  ) else (
  zb1 (f_X12_named__s o103) fun (r134 : Int32) =>
  if 0 ≤ r134 then (
  gi (o103 26 0) 402 <|
  nx (sa o103 22 (upd (o103 22) (Int32.toNatClampNeg (o103 26 0)) r134)) fun o137 =>
  nx (si o137 26 ((o137 26 0) + (1 : Int32))) fun o138 =>
  zb1 (f_X12_next o138) fun (o139 : Ob) =>
  zb1 (f_X12_isSign o139 (59 : Int32)) fun (r141 : Int32) =>
  if r141 = 0 then (
  zb2 (f_X12_badHere o139 (1 : Int32)) fun (o145 : Ob) (r146 : Int32) =>
  gz r146 <|
  some (.inr (.inr (o145, r146)))
  ) else (
  zb1 (f_X12_next o139) fun (o143 : Ob) =>
  some (.inl o143)
  )
  ) else (
  zb2 (f_X12_badHere o103 (3 : Int32)) fun (o150 : Ob) (r151 : Int32) =>
  gz r151 <|
  some (.inr (.inr (o150, r151)))
  )
  )
  ) else (
  if o103 27 0 = (2 : Int32) then (
  zb2 (f_X12_badHere o103 (5 : Int32)) fun (o183 : Ob) (r184 : Int32) =>
  gz r184 <|
  some (.inr (.inr (o183, r184)))
  ) else (
  gi (o103 27 0) 2 <|
  nx (sa o103 24 (upd (o103 24) (Int32.toNatClampNeg (o103 27 0)) (o103 26 0))) fun o161 =>
  nx (si o161 27 ((o161 27 0) + (1 : Int32))) fun o162 =>
  zb1 (f_X12_next o162) fun (o163 : Ob) =>
  zb2 (f_X12_number o163 (1 : Int32) (9 : Int32)) fun (o165 : Ob) (r166 : Int32) =>
  if r166 = 0 then (
  some (.inr (.inr (o165, (0 : Int32))))
  ) else (
  gi (o165 26 0) 402 <|
  nx (sa o165 22 (upd (o165 22) (Int32.toNatClampNeg (o165 26 0)) ((100 : Int32) + (o165 12 0)))) fun o169 =>
  nx (si o169 26 ((o169 26 0) + (1 : Int32))) fun o170 =>
  zb1 (f_X12_next o170) fun (o171 : Ob) =>
  zb1 (f_X12_isSign o171 (91 : Int32)) fun (r173 : Int32) =>
  if r173 = 0 then (
  zb2 (f_X12_badHere o171 (1 : Int32)) fun (o177 : Ob) (r178 : Int32) =>
  gz r178 <|
  some (.inr (.inr (o177, r178)))
  ) else (
  zb1 (f_X12_next o171) fun (o175 : Ob) =>
  some (.inl o175)
  )
  )
  )
  )
  )) fun K129 =>
  if o103 27 0 ≤ 0 then (
  K129 ()
  ) else (
  zb1 (f_X12_isSign o103 (93 : Int32)) fun (r189 : Int32) =>
  if r189 = 0 then (
  K129 ()
  ) else (
  zb1 (f_X12_next o103) fun (o191 : Ob) =>
  nx (si o191 27 ((o191 27 0) - (1 : Int32))) fun o193 =>
  gi (o193 27 0) 2 <|
  gi (o193 24 (Int32.toNatClampNeg (o193 27 0))) 402 <|
  nx (sa o193 23 (upd (o193 23) (Int32.toNatClampNeg (o193 24 (Int32.toNatClampNeg (o193 27 0)))) (o193 26 0))) fun o196 =>
  zb1 (f_X12_isSign o196 (59 : Int32)) fun (r197 : Int32) =>
  if r197 = 0 then (
  zb2 (f_X12_badHere o196 (1 : Int32)) fun (o201 : Ob) (r202 : Int32) =>
  gz r202 <|
  some (.inr (.inr (o201, r202)))
  ) else (
  zb1 (f_X12_next o196) fun (o199 : Ob) =>
  some (.inl o199)
  )
  )
  )
  )) fun K109 =>
  if o103 11 0 = 0 then (
  if o103 27 0 ≤ 0 then (
  some (.inr (.inl o103))
  ) else (
  K109 ()
  )
  ) else (
  K109 ()
  )
  )) FU o5) (fun r => some r) <| fun (o104 : Ob) =>
  some (o104, (1 : Int32))
  )
def f_X12_doesSteps (o_t : Ob) : Option (Ob × Int32) :=
  zb2 (zl4 (fun (o52 : Ob) (k53 : Int32) (k54 : Int32) (k55 : Int32) => (
  gi (7 : Int32) 835 <|
  if (40 : Int32) ≤ o52 0 (Int32.toNatClampNeg (7 : Int32)) then (
  some (.inr (o52, k54))
  ) else (
  nx (fun (_ : Unit) => (
  nx (fun (_ : Unit) => (
  gi k55 402 <|
  if o52 22 (Int32.toNatClampNeg k55) ≤ (99 : Int32) then (
  gi k55 402 <|
  zb2 (f_X12_logs o52 (o52 22 (Int32.toNatClampNeg k55))) fun (o79 : Ob) (r80 : Int32) =>
  nx (k54 + r80) fun x82 =>
  nx (k55 + (1 : Int32)) fun x83 =>
  some (.inl (o79, k53, x82, x83))
  ) else (
  gi k53 2 <|
  nx (sa o52 24 (upd (o52 24) (Int32.toNatClampNeg k53) k55)) fun o85 =>
  gi k55 402 <|
  gi k53 2 <|
  nx (sa o85 25 (upd (o85 25) (Int32.toNatClampNeg k53) ((o85 22 (Int32.toNatClampNeg k55)) - (100 : Int32)))) fun o88 =>
  nx (k53 + (1 : Int32)) fun x89 =>
  nx (k55 + (1 : Int32)) fun x90 =>
  some (.inl (o88, x89, k54, x90))
  )
  )) fun K76 =>
  if k53 ≤ 0 then (
  K76 ()
  ) else (
  gi (k53 - (1 : Int32)) 2 <|
  gi (o52 24 (Int32.toNatClampNeg (k53 - (1 : Int32)))) 402 <|
  if k55 = o52 23 (Int32.toNatClampNeg (o52 24 (Int32.toNatClampNeg (k53 - (1 : Int32))))) then (
  gi (k53 - (1 : Int32)) 2 <|
  gi (k53 - (1 : Int32)) 2 <|
  nx (sa o52 25 (upd (o52 25) (Int32.toNatClampNeg (k53 - (1 : Int32))) ((o52 25 (Int32.toNatClampNeg (k53 - (1 : Int32)))) - (1 : Int32)))) fun o96 =>
  gi (k53 - (1 : Int32)) 2 <|
  if o96 25 (Int32.toNatClampNeg (k53 - (1 : Int32))) ≤ 0 then (
  nx (k53 + (-1 : Int32)) fun x98 =>
  some (.inl (o96, x98, k54, k55))
  ) else (
  gi (k53 - (1 : Int32)) 2 <|
  nx ((o96 24 (Int32.toNatClampNeg (k53 - (1 : Int32)))) + (1 : Int32)) fun x100 =>
  some (.inl (o96, k53, k54, x100))
  )
  ) else (
  K76 ()
  )
  )
  )) fun K63 =>
  if k55 < o52 26 0 then (
  K63 ()
  ) else (
  if k53 ≤ 0 then (
  some (.inr (o52, k54))
  ) else (
  K63 ()
  )
  )
  )
  )) FU o_t (0 : Int32) (0 : Int32) (0 : Int32)) <| fun (o56 : Ob) (k57 : Int32) =>
  some (o56, k57)
def f_X12_names (o_t : Ob) : Option (Ob × Int32) :=
  zb2 (f_X12_readsSteps o_t) fun (o1 : Ob) (r2 : Int32) =>
  if r2 = 0 then (
  some (o1, (-1000 : Int32) - (o1 14 0))
  ) else (
  zb1 (f_X12_call o1) fun (o4 : Ob) =>
  zb1 (f_X12_keeps o4) fun (o6 : Ob) =>
  zb2 (f_X12_doesSteps o6) fun (o8 : Ob) (r9 : Int32) =>
  some (o8, r9)
  )
def f_X12_now (o_t : Ob) (v1 : Int32) : Option (Int32) :=
  if v1 = (0 : Int32) then (
  gi (0 : Int32) 835 <|
  some (o_t 0 (Int32.toNatClampNeg (0 : Int32)))
  ) else (
  if v1 = (1 : Int32) then (
  gi (1 : Int32) 835 <|
  some (o_t 0 (Int32.toNatClampNeg (1 : Int32)))
  ) else (
  if v1 = (2 : Int32) then (
  gi (2 : Int32) 835 <|
  some (o_t 0 (Int32.toNatClampNeg (2 : Int32)))
  ) else (
  if v1 = (3 : Int32) then (
  gi (3 : Int32) 835 <|
  some (o_t 0 (Int32.toNatClampNeg (3 : Int32)))
  ) else (
  if v1 = (4 : Int32) then (
  gi (0 : Int32) 835 <|
  zb1 (f_X12_lies o_t) fun (r10 : Int32) =>
  some ((o_t 0 (Int32.toNatClampNeg (0 : Int32))) - r10)
  ) else (
  if v1 = (5 : Int32) then (
  gi (4 : Int32) 835 <|
  some (o_t 0 (Int32.toNatClampNeg (4 : Int32)))
  ) else (
  if v1 = (6 : Int32) then (
  gi (7 : Int32) 835 <|
  some (o_t 0 (Int32.toNatClampNeg (7 : Int32)))
  ) else (
  if v1 = (7 : Int32) then (
  some (o_t 7 0)
  ) else (
  if v1 = (8 : Int32) then (
  gi (5 : Int32) 835 <|
  some (o_t 0 (Int32.toNatClampNeg (5 : Int32)))
  ) else (
  if v1 = (9 : Int32) then (
  gi (6 : Int32) 835 <|
  some (o_t 0 (Int32.toNatClampNeg (6 : Int32)))
  ) else (
  some (-1 : Int32)
  ))))))))))
def f_X12_item_ (o_t : Ob) (v1 : Int32) (v2 : Int32) : Option (Int32) :=
  zb1 (f_X12_isItem o_t v1) fun (r1 : Int32) =>
  if r1 = 0 then (
  some (-1 : Int32)
  ) else (
  if v2 = (0 : Int32) then (
  gi ((8 : Int32) + v1) 835 <|
  some (o_t 0 (Int32.toNatClampNeg ((8 : Int32) + v1)))
  ) else (
  if v2 = (1 : Int32) then (
  gi ((16 : Int32) + v1) 835 <|
  some (o_t 0 (Int32.toNatClampNeg ((16 : Int32) + v1)))
  ) else (
  if v2 = (2 : Int32) then (
  gi ((24 : Int32) + v1) 835 <|
  some (o_t 0 (Int32.toNatClampNeg ((24 : Int32) + v1)))
  ) else (
  if v2 = (3 : Int32) then (
  gi ((32 : Int32) + v1) 835 <|
  some (o_t 0 (Int32.toNatClampNeg ((32 : Int32) + v1)))
  ) else (
  if v2 = (4 : Int32) then (
  gi ((40 : Int32) + v1) 835 <|
  some (o_t 0 (Int32.toNatClampNeg ((40 : Int32) + v1)))
  ) else (
  if v2 = (5 : Int32) then (
  gi ((48 : Int32) + v1) 835 <|
  some (o_t 0 (Int32.toNatClampNeg ((48 : Int32) + v1)))
  ) else (
  some (-1 : Int32)
  ))))))
  )
def f_X12_isLogged (o_t : Ob) (v1 : Int32) : Option (Int32) :=
  gi (7 : Int32) 835 <|
  zb1 (f_X12_isIn v1 (0 : Int32) ((o_t 0 (Int32.toNatClampNeg (7 : Int32))) - (1 : Int32))) fun (r2 : Int32) =>
  gz r2 <|
  some r2
def f_X12_log (o_t : Ob) (v1 : Int32) (v2 : Int32) : Option (Int32) :=
  zb1 (f_X12_isLogged o_t v1) fun (r1 : Int32) =>
  if r1 = 0 then (
  some (-1 : Int32)
  ) else (
  if v2 = 0 then (
  gi ((104 : Int32) + v1) 835 <|
  some (o_t 0 (Int32.toNatClampNeg ((104 : Int32) + v1)))
  ) else (
  if v2 = (1 : Int32) then (
  gi ((144 : Int32) + v1) 835 <|
  some (o_t 0 (Int32.toNatClampNeg ((144 : Int32) + v1)))
  ) else (
  if v2 = (2 : Int32) then (
  gi ((184 : Int32) + v1) 835 <|
  some (o_t 0 (Int32.toNatClampNeg ((184 : Int32) + v1)))
  ) else (
  some (-1 : Int32)
  )
  )
  )
  )
def f_X12_empties (o_t : Ob) : Option (Ob × Int32) :=
  gi (3 : Int32) 835 <|
  zb1 (f_X12_ones (o_t 0 (Int32.toNatClampNeg (3 : Int32)))) fun (r2 : Int32) =>
  gi (3 : Int32) 835 <|
  nx (sa o_t 0 (upd (o_t 0) (Int32.toNatClampNeg (3 : Int32)) (0 : Int32))) fun o5 =>
  gi (7 : Int32) 835 <|
  nx (sa o5 0 (upd (o5 0) (Int32.toNatClampNeg (7 : Int32)) (0 : Int32))) fun o7 =>
  zb1 (zl2 (fun (o18 : Ob) (k19 : Int32) => (
  if (8 : Int32) ≤ k19 then (
  some (.inr o18)
  ) else (
  gi ((32 : Int32) + k19) 835 <|
  nx (sa o18 0 (upd (o18 0) (Int32.toNatClampNeg ((32 : Int32) + k19)) (0 : Int32))) fun o24 =>
  gi ((40 : Int32) + k19) 835 <|
  nx (sa o24 0 (upd (o24 0) (Int32.toNatClampNeg ((40 : Int32) + k19)) (0 : Int32))) fun o26 =>
  gi ((48 : Int32) + k19) 835 <|
  nx (sa o26 0 (upd (o26 0) (Int32.toNatClampNeg ((48 : Int32) + k19)) (0 : Int32))) fun o28 =>
  nx (k19 + (1 : Int32)) fun x29 =>
  some (.inl (o28, x29))
  )
  )) FU o7 (0 : Int32)) <| fun (o20 : Ob) =>
  some (o20, r2)
def f_X12_room (o_t : Ob) (v1 : Int32) : Option (Ob × Int32) :=
  zb1 (f_X12_isIn v1 (1 : Int32) (20 : Int32)) fun (r1 : Int32) =>
  if r1 = 0 then (
  some (o_t, (-1 : Int32))
  ) else (
  gi (0 : Int32) 835 <|
  if v1 = o_t 0 (Int32.toNatClampNeg (0 : Int32)) then (
  some (o_t, (-1 : Int32))
  ) else (
  zb1 (f_X12_keeps o_t) fun (o4 : Ob) =>
  gi (0 : Int32) 835 <|
  nx (sa o4 0 (upd (o4 0) (Int32.toNatClampNeg (0 : Int32)) v1)) fun o7 =>
  zb2 (f_X12_empties o7) fun (o8 : Ob) (r9 : Int32) =>
  some (o8, r9)
  )
  )
def f_X12_rule (o_t : Ob) (v1 : Int32) : Option (Ob × Int32) :=
  zb1 (f_X12_isIn v1 (0 : Int32) (2 : Int32)) fun (r1 : Int32) =>
  if r1 = 0 then (
  some (o_t, (-1 : Int32))
  ) else (
  gi (1 : Int32) 835 <|
  if v1 = o_t 0 (Int32.toNatClampNeg (1 : Int32)) then (
  some (o_t, (-1 : Int32))
  ) else (
  zb1 (f_X12_keeps o_t) fun (o4 : Ob) =>
  gi (1 : Int32) 835 <|
  nx (sa o4 0 (upd (o4 0) (Int32.toNatClampNeg (1 : Int32)) v1)) fun o7 =>
  zb2 (f_X12_empties o7) fun (o8 : Ob) (r9 : Int32) =>
  some (o8, r9)
  )
  )
def f_X12_carry (o_t : Ob) (v1 : Int32) (v2 : Int32) : Option (Ob × Int32) :=
  zb1 (f_X12_isItem o_t v1) fun (r1 : Int32) =>
  if r1 = 0 then (
  some (o_t, (-2 : Int32))
  ) else (
  zb1 (f_X12_isIn v2 (0 : Int32) (1 : Int32)) fun (r3 : Int32) =>
  if r3 = 0 then (
  some (o_t, (-2 : Int32))
  ) else (
  zb1 (f_X12_call o_t) fun (o5 : Ob) =>
  gi (3 : Int32) 835 <|
  zb1 (f_X12_bitOf (o5 0 (Int32.toNatClampNeg (3 : Int32))) v1) fun (r8 : Int32) =>
  nx (fun (j11 : Int32) => (
  nx (fun (j20 : Int32) => (
  if j20 ≤ 0 then (
  zb1 (f_X12_keeps o5) fun (o22 : Ob) =>
  if v2 = (1 : Int32) then (
  zb1 (f_X12_up o22 v1) fun (o26 : Ob) =>
  some (o26, (0 : Int32))
  ) else (
  zb1 (f_X12_down o22 v1) fun (o24 : Ob) =>
  some (o24, (0 : Int32))
  )
  ) else (
  zb1 (f_X12_gatesOpen o5) fun (o29 : Ob) =>
  some (o29, j20)
  )
  )) fun K21 =>
  if r8 = j11 then (
  K21 (1 : Int32)
  ) else (
  if v2 = (1 : Int32) then (
  gi ((8 : Int32) + v1) 835 <|
  gi (0 : Int32) 835 <|
  zb1 (f_X12_lies o5) fun (r34 : Int32) =>
  if o5 0 (Int32.toNatClampNeg ((8 : Int32) + v1)) ≤ (o5 0 (Int32.toNatClampNeg (0 : Int32))) - r34 then (
  K21 (0 : Int32)
  ) else (
  K21 (2 : Int32)
  )
  ) else (
  K21 (0 : Int32)
  )
  )
  )) fun K12 =>
  if v2 = (1 : Int32) then (
  K12 (1 : Int32)
  ) else (
  K12 (0 : Int32)
  )
  )
  )
def f_X12_sizeOf (o_t : Ob) (v1 : Int32) : Option (Int32) :=
  zb1 (zl2 (fun (k16 : Int32) (k17 : Int32) => (
  gi (2 : Int32) 835 <|
  if o_t 0 (Int32.toNatClampNeg (2 : Int32)) ≤ k17 then (
  some (.inr k16)
  ) else (
  zb1 (f_X12_bitOf v1 k17) fun (r22 : Int32) =>
  nx (fun (j26 : Int32) => (
  nx (k16 + j26) fun x28 =>
  nx (k17 + (1 : Int32)) fun x29 =>
  some (.inl (x28, x29))
  )) fun K27 =>
  if r22 = 0 then (
  K27 (0 : Int32)
  ) else (
  gi ((8 : Int32) + k17) 835 <|
  K27 (o_t 0 (Int32.toNatClampNeg ((8 : Int32) + k17)))
  )
  )
  )) FU (0 : Int32) (0 : Int32)) <| fun (k18 : Int32) =>
  some k18
def f_X12_priceOf (o_t : Ob) (v1 : Int32) : Option (Int32) :=
  zb1 (zl2 (fun (k16 : Int32) (k17 : Int32) => (
  gi (2 : Int32) 835 <|
  if o_t 0 (Int32.toNatClampNeg (2 : Int32)) ≤ k17 then (
  some (.inr k16)
  ) else (
  zb1 (f_X12_bitOf v1 k17) fun (r22 : Int32) =>
  nx (fun (j26 : Int32) => (
  nx (k16 + j26) fun x28 =>
  nx (k17 + (1 : Int32)) fun x29 =>
  some (.inl (x28, x29))
  )) fun K27 =>
  if r22 = 0 then (
  K27 (0 : Int32)
  ) else (
  gi ((16 : Int32) + k17) 835 <|
  K27 (o_t 0 (Int32.toNatClampNeg ((16 : Int32) + k17)))
  )
  )
  )) FU (0 : Int32) (0 : Int32)) <| fun (k18 : Int32) =>
  some k18
def f_X12_isPlan (o_t : Ob) (v1 : Int32) (v2 : Int32) : Option (Int32) :=
  gi ((104 : Int32) + v1) 835 <|
  nx (o_t 0 (Int32.toNatClampNeg ((104 : Int32) + v1))) fun x2 =>
  zb1 (f_X12_sizeOf o_t v2) fun (r3 : Int32) =>
  if o_t 31 0 < r3 then (
  some (0 : Int32)
  ) else (
  if v2 &&& (o_t 33 0) = o_t 33 0 then (
  zb1 (f_X12_bitOf v2 x2) fun (r5 : Int32) =>
  if r5 = 0 then (
  gi (1 : Int32) 835 <|
  if 0 < o_t 0 (Int32.toNatClampNeg (1 : Int32)) then (
  some (1 : Int32)
  ) else (
  gi ((8 : Int32) + x2) 835 <|
  if o_t 0 (Int32.toNatClampNeg ((8 : Int32) + x2)) ≤ o_t 31 0 then (
  some (0 : Int32)
  ) else (
  some (1 : Int32)
  )
  )
  ) else (
  some (1 : Int32)
  )
  ) else (
  some (0 : Int32)
  )
  )
def f_X12_rentAt (o_t : Ob) (v1 : Int32) (v2 : Int32) : Option (Int32) :=
  gi ((104 : Int32) + v1) 835 <|
  zb1 (f_X12_bitOf v2 (o_t 0 (Int32.toNatClampNeg ((104 : Int32) + v1)))) fun (r2 : Int32) =>
  if r2 = 0 then (
  gi ((104 : Int32) + v1) 835 <|
  gi ((24 : Int32) + (o_t 0 (Int32.toNatClampNeg ((104 : Int32) + v1)))) 835 <|
  some (o_t 0 (Int32.toNatClampNeg ((24 : Int32) + (o_t 0 (Int32.toNatClampNeg ((104 : Int32) + v1))))))
  ) else (
  some (0 : Int32)
  )
def f_X12_paidAhead (o_t : Ob) (v1 : Int32) (v2 : Int32) : Option (Int32) :=
  if v1 = 0 then (
  if v2 = 0 then (
  some (0 : Int32)
  ) else (
  some (100000000 : Int32)
  )
  ) else (
  gi (((256 : Int32) * (v1 - (1 : Int32))) + v2) 10240 <|
  some (o_t 28 (Int32.toNatClampNeg (((256 : Int32) * (v1 - (1 : Int32))) + v2)))
  )
def f_X12_bestAt (o_t : Ob) (v1 : Int32) (v2 : Int32) : Option (Int32) :=
  nx ((100000000 : Int32)) fun x1 =>
  zb1 (zl2 (fun (k21 : Int32) (k22 : Int32) => (
  nx (fun (j31 : Int32) => (
  if j31 ≤ k22 then (
  some (.inr k21)
  ) else (
  zb1 (f_X12_paidAhead o_t v1 k22) fun (r33 : Int32) =>
  if r33 < (100000000 : Int32) then (
  gi (v2 &&& (k22 ^^^ (-1 : Int32))) 256 <|
  nx (r33 + (o_t 30 (Int32.toNatClampNeg (v2 &&& (k22 ^^^ (-1 : Int32)))))) fun x36 =>
  if k21 ≤ x36 then (
  nx (k22 + (1 : Int32)) fun x37 =>
  some (.inl (k21, x37))
  ) else (
  nx (k22 + (1 : Int32)) fun x38 =>
  some (.inl (x36, x38))
  )
  ) else (
  nx (k22 + (1 : Int32)) fun x40 =>
  some (.inl (k21, x40))
  )
  )
  )) fun K32 =>
  if v1 = 0 then (
  K32 (1 : Int32)
  ) else (
  gi (2 : Int32) 835 <|
  K32 ((1 : Int32) <<< ((o_t 0 (Int32.toNatClampNeg (2 : Int32))) &&& 31))
  )
  )) FU x1 (0 : Int32)) <| fun (k23 : Int32) =>
  if k23 < (100000000 : Int32) then (
  zb1 (f_X12_rentAt o_t v1 v2) fun (r24 : Int32) =>
  some (k23 + r24)
  ) else (
  some (100000000 : Int32)
  )
def f_X12_plans (o_t : Ob) (v1 : Int32) (v2 : Int32) (v3 : Int32) : Option (Ob × Int32) :=
  nx (si o_t 31 v2) fun o1 =>
  nx (si o1 32 v1) fun o2 =>
  nx (si o2 33 v3) fun o3 =>
  zb1 (zl2 (fun (o13 : Ob) (k14 : Int32) => (
  gi (2 : Int32) 835 <|
  if (1 : Int32) <<< ((o13 0 (Int32.toNatClampNeg (2 : Int32))) &&& 31) ≤ k14 then (
  some (.inr o13)
  ) else (
  zb1 (f_X12_priceOf o13 k14) fun (r128 : Int32) =>
  gi k14 256 <|
  nx (sa o13 30 (upd (o13 30) (Int32.toNatClampNeg k14) r128)) fun o131 =>
  nx (k14 + (1 : Int32)) fun x132 =>
  some (.inl (o131, x132))
  )
  )) FU o3 (0 : Int32)) <| fun (o15 : Ob) =>
  zb1 (zl2 (fun (o54 : Ob) (k55 : Int32) => (
  if v1 ≤ k55 then (
  some (.inr o54)
  ) else (
  zb1 (zl2 (fun (o103 : Ob) (k104 : Int32) => (
  gi (2 : Int32) 835 <|
  if (1 : Int32) <<< ((o103 0 (Int32.toNatClampNeg (2 : Int32))) &&& 31) ≤ k104 then (
  some (.inr o103)
  ) else (
  zb1 (f_X12_isPlan o103 k55 k104) fun (r110 : Int32) =>
  if r110 = 0 then (
  gi (((256 : Int32) * k55) + k104) 10240 <|
  nx (sa o103 28 (upd (o103 28) (Int32.toNatClampNeg (((256 : Int32) * k55) + k104)) (100000000 : Int32))) fun o113 =>
  nx (k104 + (1 : Int32)) fun x114 =>
  some (.inl (o113, x114))
  ) else (
  zb1 (f_X12_bestAt o103 k55 k104) fun (r115 : Int32) =>
  gi (((256 : Int32) * k55) + k104) 10240 <|
  nx (sa o103 28 (upd (o103 28) (Int32.toNatClampNeg (((256 : Int32) * k55) + k104)) r115)) fun o118 =>
  nx (k104 + (1 : Int32)) fun x119 =>
  some (.inl (o118, x119))
  )
  )
  )) FU o54 (0 : Int32)) <| fun (o105 : Ob) =>
  nx (k55 + (1 : Int32)) fun x106 =>
  some (.inl (o105, x106))
  )
  )) FU o15 (0 : Int32)) <| fun (o56 : Ob) =>
  nx ((100000000 : Int32)) fun x57 =>
  zb1 (zl2 (fun (k70 : Int32) (k71 : Int32) => (
  gi (2 : Int32) 835 <|
  if (1 : Int32) <<< ((o56 0 (Int32.toNatClampNeg (2 : Int32))) &&& 31) ≤ k71 then (
  some (.inr k70)
  ) else (
  if v1 ≤ 0 then (
  some (.inr k70)
  ) else (
  gi (((256 : Int32) * (v1 - (1 : Int32))) + k71) 10240 <|
  if k70 ≤ o56 28 (Int32.toNatClampNeg (((256 : Int32) * (v1 - (1 : Int32))) + k71)) then (
  nx (k71 + (1 : Int32)) fun x78 =>
  some (.inl (k70, x78))
  ) else (
  gi (((256 : Int32) * (v1 - (1 : Int32))) + k71) 10240 <|
  nx (o56 28 (Int32.toNatClampNeg (((256 : Int32) * (v1 - (1 : Int32))) + k71))) fun x80 =>
  nx (k71 + (1 : Int32)) fun x81 =>
  some (.inl (x80, x81))
  )
  )
  )
  )) FU x57 (0 : Int32)) <| fun (k72 : Int32) =>
  if v1 = 0 then (
  some (o56, (0 : Int32))
  ) else (
  some (o56, k72)
  )
def f_X12_fits (o_t : Ob) (v1 : Int32) (v2 : Int32) (v3 : Int32) : Option (Int32) :=
  gi (((256 : Int32) * v1) + v2) 10240 <|
  if o_t 28 (Int32.toNatClampNeg (((256 : Int32) * v1) + v2)) < (100000000 : Int32) then (
  if v1 = (o_t 32 0) - (1 : Int32) then (
  gi (((256 : Int32) * v1) + v2) 10240 <|
  if o_t 28 (Int32.toNatClampNeg (((256 : Int32) * v1) + v2)) = v3 then (
  some (1 : Int32)
  ) else (
  some (0 : Int32)
  )
  ) else (
  gi (v1 + (1 : Int32)) 40 <|
  nx (o_t 29 (Int32.toNatClampNeg (v1 + (1 : Int32)))) fun x3 =>
  gi (((256 : Int32) * v1) + v2) 10240 <|
  zb1 (f_X12_priceOf o_t (x3 &&& (v2 ^^^ (-1 : Int32)))) fun (r5 : Int32) =>
  zb1 (f_X12_rentAt o_t (v1 + (1 : Int32)) x3) fun (r7 : Int32) =>
  if ((o_t 28 (Int32.toNatClampNeg (((256 : Int32) * v1) + v2))) + r5) + r7 = v3 then (
  some (1 : Int32)
  ) else (
  some (0 : Int32)
  )
  )
  ) else (
  some (0 : Int32)
  )
def f_X12_goesBack (o_t : Ob) (v1 : Int32) : Option (Ob) :=
  nx ((o_t 32 0) - (1 : Int32)) fun x1 =>
  zb1 (zl3 (fun (o26 : Ob) (k27 : Int32) (k28 : Int32) => (
  if k28 < 0 then (
  some (.inr o26)
  ) else (
  zb1 (zl1 (fun (k38 : Int32) => (
  zb1 (f_X12_fits o26 k28 k38 k27) fun (r47 : Int32) =>
  if r47 = 0 then (
  nx (k38 + (1 : Int32)) fun x49 =>
  some (.inl x49)
  ) else (
  some (.inr k38)
  )
  )) FU (0 : Int32)) <| fun (k39 : Int32) =>
  gi k28 40 <|
  nx (sa o26 29 (upd (o26 29) (Int32.toNatClampNeg k28) k39)) fun o41 =>
  gi (((256 : Int32) * k28) + k39) 10240 <|
  nx (o41 28 (Int32.toNatClampNeg (((256 : Int32) * k28) + k39))) fun x43 =>
  nx (k28 + (-1 : Int32)) fun x44 =>
  some (.inl (o41, x43, x44))
  )
  )) FU o_t v1 x1) <| fun (o29 : Ob) =>
  some o29
def f_X12_plansAll (o_t : Ob) : Option (Ob × Int32) :=
  gi (7 : Int32) 835 <|
  if o_t 0 (Int32.toNatClampNeg (7 : Int32)) = 0 then (
  some (o_t, (0 : Int32))
  ) else (
  gi (7 : Int32) 835 <|
  gi (0 : Int32) 835 <|
  zb2 (f_X12_plans o_t (o_t 0 (Int32.toNatClampNeg (7 : Int32))) (o_t 0 (Int32.toNatClampNeg (0 : Int32))) (0 : Int32)) fun (o4 : Ob) (r5 : Int32) =>
  zb1 (f_X12_goesBack o4 r5) fun (o7 : Ob) =>
  some (o7, (1 : Int32))
  )
def f_X12_best (o_t : Ob) : Option (Ob × Int32) :=
  gi (7 : Int32) 835 <|
  if o_t 0 (Int32.toNatClampNeg (7 : Int32)) = 0 then (
  some (o_t, (-1 : Int32))
  ) else (
  gi (7 : Int32) 835 <|
  gi (0 : Int32) 835 <|
  zb2 (f_X12_plans o_t (o_t 0 (Int32.toNatClampNeg (7 : Int32))) (o_t 0 (Int32.toNatClampNeg (0 : Int32))) (0 : Int32)) fun (o4 : Ob) (r5 : Int32) =>
  some (o4, r5)
  )
def f_X12_paidAt (o_t : Ob) (v1 : Int32) : Option (Int32) :=
  gi v1 40 <|
  nx (fun (j4 : Int32) => (
  zb1 (f_X12_priceOf o_t ((o_t 29 (Int32.toNatClampNeg v1)) &&& (j4 ^^^ (-1 : Int32)))) fun (r6 : Int32) =>
  gi v1 40 <|
  zb1 (f_X12_rentAt o_t v1 (o_t 29 (Int32.toNatClampNeg v1))) fun (r9 : Int32) =>
  some (r6 + r9)
  )) fun K5 =>
  if v1 = 0 then (
  K5 (0 : Int32)
  ) else (
  gi (v1 - (1 : Int32)) 40 <|
  K5 (o_t 29 (Int32.toNatClampNeg (v1 - (1 : Int32))))
  )
def f_X12_plan (o_t : Ob) (v1 : Int32) (v2 : Int32) : Option (Ob × Int32) :=
  zb1 (f_X12_isLogged o_t v1) fun (r1 : Int32) =>
  if r1 = 0 then (
  some (o_t, (-1 : Int32))
  ) else (
  zb1 (f_X12_isIn v2 (0 : Int32) (1 : Int32)) fun (r3 : Int32) =>
  if r3 = 0 then (
  some (o_t, (-1 : Int32))
  ) else (
  zb2 (f_X12_plansAll o_t) fun (o5 : Ob) (r6 : Int32) =>
  if v2 = 0 then (
  zb1 (f_X12_paidAt o5 v1) fun (r9 : Int32) =>
  some (o5, r9)
  ) else (
  gi v1 40 <|
  some (o5, o5 29 (Int32.toNatClampNeg v1))
  )
  )
  )
def f_X12_potentialAt (o_t : Ob) (v1 : Int32) : Option (Int32) :=
  if 0 ≤ v1 then (
  zb1 (zl2 (fun (k40 : Int32) (k41 : Int32) => (
  gi (2 : Int32) 835 <|
  if o_t 0 (Int32.toNatClampNeg (2 : Int32)) ≤ k41 then (
  some (.inr k40)
  ) else (
  gi (((224 : Int32) + ((8 : Int32) * v1)) + k41) 835 <|
  gi ((8 : Int32) + k41) 835 <|
  nx ((o_t 0 (Int32.toNatClampNeg (((224 : Int32) + ((8 : Int32) * v1)) + k41))) * (o_t 0 (Int32.toNatClampNeg ((8 : Int32) + k41)))) fun x48 =>
  gi ((184 : Int32) + v1) 835 <|
  zb1 (f_X12_bitOf (o_t 0 (Int32.toNatClampNeg ((184 : Int32) + v1))) k41) fun (r50 : Int32) =>
  nx (fun (j54 : Int32) => (
  nx (k40 + j54) fun x56 =>
  gi v1 40 <|
  zb1 (f_X12_bitOf (o_t 29 (Int32.toNatClampNeg v1)) k41) fun (r58 : Int32) =>
  nx (fun (j67 : Int32) => (
  nx (x56 + j67) fun x69 =>
  nx (k41 + (1 : Int32)) fun x70 =>
  some (.inl (x69, x70))
  )) fun K68 =>
  if r58 = 0 then (
  K68 (0 : Int32)
  ) else (
  gi (0 : Int32) 835 <|
  gi ((16 : Int32) + k41) 835 <|
  gi ((184 : Int32) + v1) 835 <|
  zb1 (f_X12_bitOf (o_t 0 (Int32.toNatClampNeg ((184 : Int32) + v1))) k41) fun (r74 : Int32) =>
  if r74 = 0 then (
  K68 ((o_t 0 (Int32.toNatClampNeg (0 : Int32))) * (((60 : Int32) * (o_t 0 (Int32.toNatClampNeg ((16 : Int32) + k41)))) - (0 : Int32)))
  ) else (
  K68 ((o_t 0 (Int32.toNatClampNeg (0 : Int32))) * (((60 : Int32) * (o_t 0 (Int32.toNatClampNeg ((16 : Int32) + k41)))) - x48))
  )
  )
  )) fun K55 =>
  if r50 = 0 then (
  K55 (0 : Int32)
  ) else (
  gi (0 : Int32) 835 <|
  K55 (((o_t 0 (Int32.toNatClampNeg (0 : Int32))) - (1 : Int32)) * x48)
  )
  )
  )) FU (0 : Int32) (0 : Int32)) <| fun (k42 : Int32) =>
  some k42
  ) else (
  some (0 : Int32)
  )
def f_X12_potential (o_t : Ob) (v1 : Int32) : Option (Ob × Int32) :=
  zb1 (f_X12_isLogged o_t v1) fun (r1 : Int32) =>
  if r1 = 0 then (
  some (o_t, (-1 : Int32))
  ) else (
  zb2 (f_X12_plansAll o_t) fun (o3 : Ob) (r4 : Int32) =>
  zb1 (f_X12_potentialAt o3 v1) fun (r6 : Int32) =>
  some (o3, r6)
  )
def f_X12_proof (o_t : Ob) (v1 : Int32) : Option (Ob × Int32) :=
  zb1 (f_X12_isLogged o_t v1) fun (r1 : Int32) =>
  if r1 = 0 then (
  some (o_t, (-1000000000 : Int32))
  ) else (
  zb2 (f_X12_plansAll o_t) fun (o3 : Ob) (r4 : Int32) =>
  gi (0 : Int32) 835 <|
  zb1 (f_X12_paidAt o3 v1) fun (r7 : Int32) =>
  gi ((144 : Int32) + v1) 835 <|
  zb1 (f_X12_potentialAt o3 v1) fun (r10 : Int32) =>
  zb1 (f_X12_potentialAt o3 (v1 - (1 : Int32))) fun (r12 : Int32) =>
  some (o3, ((((60 : Int32) * (o3 0 (Int32.toNatClampNeg (0 : Int32)))) * r7) - ((60 : Int32) * (o3 0 (Int32.toNatClampNeg ((144 : Int32) + v1))))) - (r10 - r12))
  )
def f_X12_bestWith (o_t : Ob) (v1 : Int32) : Option (Ob × Int32) :=
  zb1 (f_X12_isItem o_t v1) fun (r1 : Int32) =>
  if r1 = 0 then (
  some (o_t, (-1 : Int32))
  ) else (
  gi (7 : Int32) 835 <|
  if o_t 0 (Int32.toNatClampNeg (7 : Int32)) = 0 then (
  some (o_t, (-1 : Int32))
  ) else (
  gi (7 : Int32) 835 <|
  gi (0 : Int32) 835 <|
  zb2 (f_X12_plans o_t (o_t 0 (Int32.toNatClampNeg (7 : Int32))) (o_t 0 (Int32.toNatClampNeg (0 : Int32))) ((1 : Int32) <<< (v1 &&& 31))) fun (o6 : Ob) (r7 : Int32) =>
  if r7 < (100000000 : Int32) then (
  some (o6, r7)
  ) else (
  some (o6, (-1 : Int32))
  )
  )
  )
def f_X12_upTo (o_t : Ob) (v1 : Int32) : Option (Ob × Int32) :=
  zb1 (f_X12_isLogged o_t v1) fun (r1 : Int32) =>
  if r1 = 0 then (
  some (o_t, (-1 : Int32))
  ) else (
  gi (0 : Int32) 835 <|
  zb2 (f_X12_plans o_t (v1 + (1 : Int32)) (o_t 0 (Int32.toNatClampNeg (0 : Int32))) (0 : Int32)) fun (o4 : Ob) (r5 : Int32) =>
  some (o4, r5)
  )
def f_X12_begins (o_t : Ob) : Option (Ob) :=
  zb1 (f_X12_copies 835 (o_t 0) 835 (o_t 34) (0 : Int32) (0 : Int32)) fun (o1 : Fn) =>
  nx (sa o_t 34 o1) fun o3 =>
  nx (si o3 36 (o3 20 0)) fun o4 =>
  gz (o4 21 0) <|
  nx (si o4 37 (o4 21 0)) fun o6 =>
  zb1 (zl2 (fun (o14 : Ob) (k15 : Int32) => (
  if (60 : Int32) ≤ k15 then (
  some (.inr o14)
  ) else (
  gi k15 60 <|
  gi k15 60 <|
  nx (sa o14 35 (upd (o14 35) (Int32.toNatClampNeg k15) (o14 19 (Int32.toNatClampNeg k15)))) fun o21 =>
  nx (k15 + (1 : Int32)) fun x22 =>
  some (.inl (o21, x22))
  )
  )) FU o6 (0 : Int32)) <| fun (o16 : Ob) =>
  some o16
def f_X12_ends (o_t : Ob) : Option (Ob) :=
  zb1 (f_X12_copies 835 (o_t 34) 835 (o_t 0) (0 : Int32) (0 : Int32)) fun (o1 : Fn) =>
  nx (sa o_t 0 o1) fun o3 =>
  nx (si o3 20 (o3 36 0)) fun o4 =>
  gz (o4 37 0) <|
  nx (si o4 21 (o4 37 0)) fun o6 =>
  zb1 (zl2 (fun (o14 : Ob) (k15 : Int32) => (
  if (60 : Int32) ≤ k15 then (
  some (.inr o14)
  ) else (
  gi k15 60 <|
  gi k15 60 <|
  nx (sa o14 19 (upd (o14 19) (Int32.toNatClampNeg k15) (o14 35 (Int32.toNatClampNeg k15)))) fun o21 =>
  nx (k15 + (1 : Int32)) fun x22 =>
  some (.inl (o21, x22))
  )
  )) FU o6 (0 : Int32)) <| fun (o16 : Ob) =>
  some o16
def f_X12_soon (o_t : Ob) (v1 : Int32) : Option (Ob × Int32) :=
  zb1 (f_X12_isItem o_t v1) fun (r1 : Int32) =>
  if r1 = 0 then (
  some (o_t, (-1 : Int32))
  ) else (
  zb1 (f_X12_begins o_t) fun (o3 : Ob) =>
  zb2 (zl2 (fun (o16 : Ob) (k17 : Int32) => (
  if (40 : Int32) ≤ k17 then (
  some (.inr (o16, k17))
  ) else (
  gi (3 : Int32) 835 <|
  zb1 (f_X12_bitOf (o16 0 (Int32.toNatClampNeg (3 : Int32))) v1) fun (r29 : Int32) =>
  if r29 = 0 then (
  zb2 (f_X12_asks o16 v1) fun (o31 : Ob) (r32 : Int32) =>
  nx (k17 + (1 : Int32)) fun x34 =>
  some (.inl (o31, x34))
  ) else (
  some (.inr (o16, k17))
  )
  )
  )) FU o3 (0 : Int32)) <| fun (o18 : Ob) (k19 : Int32) =>
  gi (3 : Int32) 835 <|
  zb1 (f_X12_bitOf (o18 0 (Int32.toNatClampNeg (3 : Int32))) v1) fun (r21 : Int32) =>
  zb1 (f_X12_ends o18) fun (o23 : Ob) =>
  if r21 = 0 then (
  some (o23, (-1 : Int32))
  ) else (
  some (o23, k19)
  )
  )
def f_X12_victims (o_t : Ob) (v1 : Int32) : Option (Ob × Int32) :=
  zb1 (f_X12_isItem o_t v1) fun (r1 : Int32) =>
  if r1 = 0 then (
  some (o_t, (-1 : Int32))
  ) else (
  gi (3 : Int32) 835 <|
  zb1 (f_X12_bitOf (o_t 0 (Int32.toNatClampNeg (3 : Int32))) v1) fun (r4 : Int32) =>
  if r4 = 0 then (
  gi ((8 : Int32) + v1) 835 <|
  gi (0 : Int32) 835 <|
  if o_t 0 (Int32.toNatClampNeg ((8 : Int32) + v1)) ≤ o_t 0 (Int32.toNatClampNeg (0 : Int32)) then (
  zb1 (f_X12_begins o_t) fun (o8 : Ob) =>
  gi (3 : Int32) 835 <|
  nx (o8 0 (Int32.toNatClampNeg (3 : Int32))) fun x11 =>
  gi ((8 : Int32) + v1) 835 <|
  zb1 (f_X12_way o8 (o8 0 (Int32.toNatClampNeg ((8 : Int32) + v1)))) fun (o13 : Ob) =>
  gi (3 : Int32) 835 <|
  nx (x11 &&& ((o13 0 (Int32.toNatClampNeg (3 : Int32))) ^^^ (-1 : Int32))) fun x16 =>
  zb1 (f_X12_ends o13) fun (o17 : Ob) =>
  some (o17, x16)
  ) else (
  some (o_t, (-1 : Int32))
  )
  ) else (
  some (o_t, (-1 : Int32))
  )
  )
def f_X12_replays (o_t : Ob) (v1 : Int32) (v2 : Int32) : Option (Ob × Int32) :=
  zb1 (f_X12_begins o_t) fun (o1 : Ob) =>
  gi (7 : Int32) 835 <|
  nx (o1 0 (Int32.toNatClampNeg (7 : Int32))) fun x4 =>
  zb2 (f_X12_empties o1) fun (o5 : Ob) (r6 : Int32) =>
  gi (0 : Int32) 835 <|
  nx (sa o5 0 (upd (o5 0) (Int32.toNatClampNeg (0 : Int32)) v1)) fun o9 =>
  gi (1 : Int32) 835 <|
  nx (sa o9 0 (upd (o9 0) (Int32.toNatClampNeg (1 : Int32)) v2)) fun o11 =>
  zb2 (zl3 (fun (o22 : Ob) (k23 : Int32) (k24 : Int32) => (
  if x4 ≤ k24 then (
  some (.inr (o22, k23))
  ) else (
  gi ((104 : Int32) + k24) 835 <|
  zb2 (f_X12_asks o22 (o22 0 (Int32.toNatClampNeg ((104 : Int32) + k24)))) fun (o32 : Ob) (r33 : Int32) =>
  nx (k23 + r33) fun x35 =>
  nx (k24 + (1 : Int32)) fun x36 =>
  some (.inl (o32, x35, x36))
  )
  )) FU o11 (0 : Int32) (0 : Int32)) <| fun (o25 : Ob) (k26 : Int32) =>
  zb1 (f_X12_ends o25) fun (o27 : Ob) =>
  some (o27, k26)
def f_X12_curve (o_t : Ob) (v1 : Int32) (v2 : Int32) : Option (Ob × Int32) :=
  zb1 (f_X12_isIn v1 (1 : Int32) (20 : Int32)) fun (r1 : Int32) =>
  if r1 = 0 then (
  some (o_t, (-1 : Int32))
  ) else (
  zb1 (f_X12_isIn v2 (0 : Int32) (1 : Int32)) fun (r3 : Int32) =>
  if r3 = 0 then (
  some (o_t, (-1 : Int32))
  ) else (
  if v2 = 0 then (
  gi (1 : Int32) 835 <|
  zb2 (f_X12_replays o_t v1 (o_t 0 (Int32.toNatClampNeg (1 : Int32)))) fun (o10 : Ob) (r11 : Int32) =>
  some (o10, r11)
  ) else (
  gi (7 : Int32) 835 <|
  zb2 (f_X12_plans o_t (o_t 0 (Int32.toNatClampNeg (7 : Int32))) v1 (0 : Int32)) fun (o6 : Ob) (r7 : Int32) =>
  some (o6, r7)
  )
  )
  )
def f_X12_would (o_t : Ob) (v1 : Int32) : Option (Ob × Int32) :=
  zb1 (f_X12_isIn v1 (0 : Int32) (2 : Int32)) fun (r1 : Int32) =>
  if r1 = 0 then (
  some (o_t, (-1 : Int32))
  ) else (
  gi (0 : Int32) 835 <|
  zb2 (f_X12_replays o_t (o_t 0 (Int32.toNatClampNeg (0 : Int32))) v1) fun (o4 : Ob) (r5 : Int32) =>
  some (o4, r5)
  )
def f_X12_spent (o_t : Ob) (v1 : Int32) (v2 : Int32) : Option (Int32) :=
  zb1 (f_X12_isItem o_t v1) fun (r1 : Int32) =>
  if r1 = 0 then (
  some (-1 : Int32)
  ) else (
  zb1 (f_X12_isIn v2 (0 : Int32) (2 : Int32)) fun (r3 : Int32) =>
  if r3 = 0 then (
  some (-1 : Int32)
  ) else (
  zb1 (zl2 (fun (k27 : Int32) (k28 : Int32) => (
  gi (7 : Int32) 835 <|
  if o_t 0 (Int32.toNatClampNeg (7 : Int32)) ≤ k28 then (
  some (.inr k27)
  ) else (
  gi ((104 : Int32) + k28) 835 <|
  if o_t 0 (Int32.toNatClampNeg ((104 : Int32) + k28)) = v1 then (
  nx (fun (j39 : Int32) => (
  nx (k27 + j39) fun x41 =>
  nx (k28 + (1 : Int32)) fun x42 =>
  some (.inl (x41, x42))
  )) fun K40 =>
  if v2 = (2 : Int32) then (
  gi ((144 : Int32) + k28) 835 <|
  K40 (o_t 0 (Int32.toNatClampNeg ((144 : Int32) + k28)))
  ) else (
  if v2 = 0 then (
  K40 (1 : Int32)
  ) else (
  gi ((144 : Int32) + k28) 835 <|
  if o_t 0 (Int32.toNatClampNeg ((144 : Int32) + k28)) = 0 then (
  K40 (1 : Int32)
  ) else (
  K40 (0 : Int32)
  )
  )
  )
  ) else (
  nx (k28 + (1 : Int32)) fun x48 =>
  some (.inl (k27, x48))
  )
  )
  )) FU (0 : Int32) (0 : Int32)) <| fun (k29 : Int32) =>
  some k29
  )
  )
def f_X12_picture (o_t : Ob) : Option (Ob × Int32) :=
  nx (si o_t 39 (0 : Int32)) fun o1 =>
  zb1 (zl2 (fun (o37 : Ob) (k38 : Int32) => (
  gi (2 : Int32) 835 <|
  if o37 0 (Int32.toNatClampNeg (2 : Int32)) ≤ k38 then (
  some (.inr o37)
  ) else (
  zb1 (zl2 (fun (o72 : Ob) (k73 : Int32) => (
  gi ((8 : Int32) + k38) 835 <|
  if o72 0 (Int32.toNatClampNeg ((8 : Int32) + k38)) ≤ k73 then (
  some (.inr o72)
  ) else (
  gi (3 : Int32) 835 <|
  zb1 (f_X12_bitOf (o72 0 (Int32.toNatClampNeg (3 : Int32))) k38) fun (r80 : Int32) =>
  if r80 = 0 then (
  some (.inr o72)
  ) else (
  gi ((56 : Int32) + ((6 : Int32) * k38)) 835 <|
  gi (o72 39 0) 20 <|
  nx (sa o72 38 (upd (o72 38) (Int32.toNatClampNeg (o72 39 0)) (vp_nar .byte ((Int32.toInt8 (o72 0 (Int32.toNatClampNeg ((56 : Int32) + ((6 : Int32) * k38))))).toInt32)))) fun o84 =>
  nx (si o84 39 ((o84 39 0) + (1 : Int32))) fun o85 =>
  nx (k73 + (1 : Int32)) fun x86 =>
  some (.inl (o85, x86))
  )
  )
  )) FU o37 (0 : Int32)) <| fun (o74 : Ob) =>
  nx (k38 + (1 : Int32)) fun x75 =>
  some (.inl (o74, x75))
  )
  )) FU o1 (0 : Int32)) <| fun (o39 : Ob) =>
  zb1 (zl1 (fun (o46 : Ob) => (
  gi (0 : Int32) 835 <|
  if o46 0 (Int32.toNatClampNeg (0 : Int32)) ≤ o46 39 0 then (
  some (.inr o46)
  ) else (
  gi (o46 39 0) 20 <|
  nx (sa o46 38 (upd (o46 38) (Int32.toNatClampNeg (o46 39 0)) (vp_nar .byte (46 : Int32)))) fun o52 =>
  nx (si o52 39 ((o52 39 0) + (1 : Int32))) fun o53 =>
  some (.inl o53)
  )
  )) FU o39) <| fun (o47 : Ob) =>
  some (o47, o47 39 0)
def f_X12_byteAt (o_t : Ob) (v1 : Int32) : Option (Int32) :=
  zb1 (f_X12_isIn v1 (0 : Int32) ((o_t 39 0) - (1 : Int32))) fun (r1 : Int32) =>
  if r1 = 0 then (
  some (-1 : Int32)
  ) else (
  gi v1 20 <|
  some (o_t 38 (Int32.toNatClampNeg v1))
  )
def f_X12_ratio (o_t : Ob) : Option (Ob × Int32) :=
  zb2 (f_X12_best o_t) fun (o1 : Ob) (r2 : Int32) =>
  if (1 : Int32) ≤ r2 then (
  zb1 (zl2 (fun (k12 : Int32) (k13 : Int32) => (
  gi (7 : Int32) 835 <|
  if o1 0 (Int32.toNatClampNeg (7 : Int32)) ≤ k13 then (
  some (.inr k12)
  ) else (
  gi ((144 : Int32) + k13) 835 <|
  nx (k12 + (o1 0 (Int32.toNatClampNeg ((144 : Int32) + k13)))) fun x22 =>
  nx (k13 + (1 : Int32)) fun x23 =>
  some (.inl (x22, x23))
  )
  )) FU (0 : Int32) (0 : Int32)) <| fun (k14 : Int32) =>
  gq (FP.fdiv (FP.i2f k14) (FP.i2f r2)) <|
  zb1 (f_Jxf58ca_floatToIntBits_5c35a (FP.fdiv (FP.i2f k14) (FP.i2f r2))) fun (r16 : Int32) =>
  some (o1, r16)
  ) else (
  some (o1, (-1 : Int32))
  )
def f_X12_isRide (o_t : Ob) (v1 : Int32) (v2 : Int32) : Option (Int32) :=
  if v2 = 0 then (
  some (0 : Int32)
  ) else (
  if v2 &&& (v1 ^^^ (-1 : Int32)) = 0 then (
  zb1 (f_X12_sizeOf o_t v2) fun (r1 : Int32) =>
  if r1 ≤ o_t 44 0 then (
  gi (3 : Int32) 835 <|
  nx (((o_t 0 (Int32.toNatClampNeg (3 : Int32))) ^^^ ((o_t 43 0) &&& (v1 ^^^ (-1 : Int32)))) ^^^ v2) fun x4 =>
  zb1 (f_X12_sizeOf o_t x4) fun (r5 : Int32) =>
  gi (0 : Int32) 835 <|
  if o_t 0 (Int32.toNatClampNeg (0 : Int32)) < r5 then (
  some (0 : Int32)
  ) else (
  some (1 : Int32)
  )
  ) else (
  some (0 : Int32)
  )
  ) else (
  some (0 : Int32)
  )
  )
def f_X12_laysFewest (o_t : Ob) : Option (Ob) :=
  zb1 (zl2 (fun (o48 : Ob) (k49 : Int32) => (
  gi (2 : Int32) 835 <|
  if (1 : Int32) <<< ((o48 0 (Int32.toNatClampNeg (2 : Int32))) &&& 31) ≤ k49 then (
  some (.inr o48)
  ) else (
  nx (fun (j55 : Int32) => (
  gi k49 256 <|
  nx (sa o48 40 (upd (o48 40) (Int32.toNatClampNeg k49) j55)) fun o58 =>
  if k49 &&& ((o58 43 0) ^^^ (-1 : Int32)) = 0 then (
  zb1 (zl2 (fun (o74 : Ob) (k75 : Int32) => (
  if k49 < k75 then (
  some (.inr o74)
  ) else (
  zb1 (f_X12_isRide o74 k49 k75) fun (r80 : Int32) =>
  if r80 = 0 then (
  nx (k75 + (1 : Int32)) fun x82 =>
  some (.inl (o74, x82))
  ) else (
  gi (k49 &&& (k75 ^^^ (-1 : Int32))) 256 <|
  gi k49 256 <|
  if o74 40 (Int32.toNatClampNeg k49) ≤ (o74 40 (Int32.toNatClampNeg (k49 &&& (k75 ^^^ (-1 : Int32))))) + (1 : Int32) then (
  nx (k75 + (1 : Int32)) fun x85 =>
  some (.inl (o74, x85))
  ) else (
  gi (k49 &&& (k75 ^^^ (-1 : Int32))) 256 <|
  gi k49 256 <|
  nx (sa o74 40 (upd (o74 40) (Int32.toNatClampNeg k49) ((o74 40 (Int32.toNatClampNeg (k49 &&& (k75 ^^^ (-1 : Int32))))) + (1 : Int32)))) fun o88 =>
  nx (k75 + (1 : Int32)) fun x89 =>
  some (.inl (o88, x89))
  )
  )
  )
  )) FU o58 (1 : Int32)) <| fun (o76 : Ob) =>
  nx (k49 + (1 : Int32)) fun x77 =>
  some (.inl (o76, x77))
  ) else (
  nx (k49 + (1 : Int32)) fun x94 =>
  some (.inl (o58, x94))
  )
  )) fun K56 =>
  if k49 = 0 then (
  K56 (0 : Int32)
  ) else (
  K56 (100000000 : Int32)
  )
  )
  )) FU o_t (0 : Int32)) <| fun (o50 : Ob) =>
  some o50
def f_X12_canShift (o_t : Ob) (v1 : Int32) (v2 : Int32) : Option (Int32) :=
  if v1 < 0 then (
  some (0 : Int32)
  ) else (
  gi (2 : Int32) 835 <|
  if (1 : Int32) <<< ((o_t 0 (Int32.toNatClampNeg (2 : Int32))) &&& 31) ≤ v1 then (
  some (0 : Int32)
  ) else (
  zb1 (f_X12_isIn v2 (1 : Int32) (40 : Int32)) fun (r2 : Int32) =>
  if r2 = 0 then (
  some (0 : Int32)
  ) else (
  zb1 (f_X12_sizeOf o_t v1) fun (r4 : Int32) =>
  gi (0 : Int32) 835 <|
  if r4 ≤ o_t 0 (Int32.toNatClampNeg (0 : Int32)) then (
  ze0 (zl1 (fun (k19 : Int32) => (
  gi (2 : Int32) 835 <|
  if o_t 0 (Int32.toNatClampNeg (2 : Int32)) ≤ k19 then (
  some (.inr (.inl ()))
  ) else (
  gi (3 : Int32) 835 <|
  zb1 (f_X12_bitOf (v1 ^^^ (o_t 0 (Int32.toNatClampNeg (3 : Int32)))) k19) fun (r24 : Int32) =>
  if r24 = 0 then (
  nx (k19 + (1 : Int32)) fun x26 =>
  some (.inl x26)
  ) else (
  gi ((8 : Int32) + k19) 835 <|
  if o_t 0 (Int32.toNatClampNeg ((8 : Int32) + k19)) ≤ v2 then (
  nx (k19 + (1 : Int32)) fun x28 =>
  some (.inl x28)
  ) else (
  some (.inr (.inr (0 : Int32)))
  )
  )
  )
  )) FU (0 : Int32)) (fun r => some r) <|
  some (1 : Int32)
  ) else (
  some (0 : Int32)
  )
  )
  )
  )
def f_X12_laysRides__r (o_t : Ob) (v1 : Int32) (v2 : Int32) : Option (Ob × Int32) :=
  gi (3 : Int32) 835 <|
  nx (si o_t 43 (v1 ^^^ (o_t 0 (Int32.toNatClampNeg (3 : Int32))))) fun o2 =>
  nx (si o2 44 v2) fun o3 =>
  zb1 (f_X12_laysFewest o3) fun (o4 : Ob) =>
  nx (o4 43 0) fun x6 =>
  zb2 (zl3 (fun (o38 : Ob) (k39 : Int32) (k40 : Int32) => (
  if k39 = 0 then (
  some (.inr (o38, k40))
  ) else (
  zb1 (zl1 (fun (k55 : Int32) => (
  zb1 (f_X12_isRide o38 k39 k55) fun (r63 : Int32) =>
  if r63 = 0 then (
  nx (k55 + (1 : Int32)) fun x65 =>
  some (.inl x65)
  ) else (
  gi (k39 &&& (k55 ^^^ (-1 : Int32))) 256 <|
  gi k39 256 <|
  if o38 40 (Int32.toNatClampNeg (k39 &&& (k55 ^^^ (-1 : Int32)))) = (o38 40 (Int32.toNatClampNeg k39)) - (1 : Int32) then (
  some (.inr k55)
  ) else (
  nx (k55 + (1 : Int32)) fun x68 =>
  some (.inl x68)
  )
  )
  )) FU (1 : Int32)) <| fun (k56 : Int32) =>
  gi k40 8 <|
  nx (sa o38 41 (upd (o38 41) (Int32.toNatClampNeg k40) k56)) fun o58 =>
  nx (k40 + (1 : Int32)) fun x59 =>
  nx (k39 &&& (k56 ^^^ (-1 : Int32))) fun x60 =>
  some (.inl (o58, x60, x59))
  )
  )) FU o4 x6 (0 : Int32)) <| fun (o41 : Ob) (k42 : Int32) =>
  some (o41, k42)
def f_X12_laysRides__g (o_t : Ob) (v1 : Int32) (v2 : Int32) : Option (Ob × Int32) :=
  gi (3 : Int32) 835 <|
  nx (si o_t 43 (v1 ^^^ (o_t 0 (Int32.toNatClampNeg (3 : Int32))))) fun o2 =>
  nx (si o2 44 v2) fun o3 =>
  zb1 (f_X12_laysFewest o3) fun (o4 : Ob) =>
  nx (o4 43 0) fun x6 =>
  zb2 (zl3 (fun (o38 : Ob) (k39 : Int32) (k40 : Int32) => (
  if k39 = 0 then (
  some (.inr (o38, k40))
  ) else (
  zb1 (zl1 (fun (k55 : Int32) => (
  zb1 (f_X12_isRide o38 k39 k55) fun (r63 : Int32) =>
  if r63 = 0 then (
  nx (k55 + (1 : Int32)) fun x65 =>
  some (.inl x65)
  ) else (
  gi (k39 &&& (k55 ^^^ (-1 : Int32))) 256 <|
  gi k39 256 <|
  if o38 40 (Int32.toNatClampNeg (k39 &&& (k55 ^^^ (-1 : Int32)))) = (o38 40 (Int32.toNatClampNeg k39)) - (1 : Int32) then (
  some (.inr k55)
  ) else (
  nx (k55 + (1 : Int32)) fun x68 =>
  some (.inl x68)
  )
  )
  )) FU (1 : Int32)) <| fun (k56 : Int32) =>
  gi k40 8 <|
  nx (sa o38 45 (upd (o38 45) (Int32.toNatClampNeg k40) k56)) fun o58 =>
  nx (k40 + (1 : Int32)) fun x59 =>
  nx (k39 &&& (k56 ^^^ (-1 : Int32))) fun x60 =>
  some (.inl (o58, x60, x59))
  )
  )) FU o4 x6 (0 : Int32)) <| fun (o41 : Ob) (k42 : Int32) =>
  some (o41, k42)
def f_X12_rides (o_t : Ob) (v1 : Int32) (v2 : Int32) : Option (Ob × Int32) :=
  zb1 (f_X12_canShift o_t v1 v2) fun (r1 : Int32) =>
  if r1 = 0 then (
  some (o_t, (-1 : Int32))
  ) else (
  zb2 (f_X12_laysRides__r o_t v1 v2) fun (o3 : Ob) (r4 : Int32) =>
  nx (si o3 42 r4) fun o6 =>
  some (o6, o6 42 0)
  )
def f_X12_ride (o_t : Ob) (v1 : Int32) : Option (Int32) :=
  zb1 (f_X12_isIn v1 (0 : Int32) ((o_t 42 0) - (1 : Int32))) fun (r1 : Int32) =>
  if r1 = 0 then (
  some (-1 : Int32)
  ) else (
  gi v1 8 <|
  some (o_t 41 (Int32.toNatClampNeg v1))
  )
def f_X12_shift (o_t : Ob) (v1 : Int32) (v2 : Int32) : Option (Ob × Int32) :=
  zb1 (f_X12_canShift o_t v1 v2) fun (r1 : Int32) =>
  if r1 = 0 then (
  some (o_t, (-1 : Int32))
  ) else (
  gi (3 : Int32) 835 <|
  if v1 = o_t 0 (Int32.toNatClampNeg (3 : Int32)) then (
  some (o_t, (0 : Int32))
  ) else (
  zb2 (f_X12_laysRides__g o_t v1 v2) fun (o4 : Ob) (r5 : Int32) =>
  zb1 (f_X12_ones (o4 43 0)) fun (r7 : Int32) =>
  zb1 (f_X12_call o4) fun (o9 : Ob) =>
  zb1 (f_X12_keeps o9) fun (o11 : Ob) =>
  zb1 (zl2 (fun (o75 : Ob) (k76 : Int32) => (
  if r5 ≤ k76 then (
  some (.inr o75)
  ) else (
  gi (3 : Int32) 835 <|
  nx (o75 0 (Int32.toNatClampNeg (3 : Int32))) fun x81 =>
  zb1 (zl2 (fun (o94 : Ob) (k95 : Int32) => (
  gi (2 : Int32) 835 <|
  if o94 0 (Int32.toNatClampNeg (2 : Int32)) ≤ k95 then (
  some (.inr o94)
  ) else (
  gi k76 8 <|
  zb1 (f_X12_bitOf ((o94 45 (Int32.toNatClampNeg k76)) &&& x81) k95) fun (r130 : Int32) =>
  if r130 = 0 then (
  nx (k95 + (1 : Int32)) fun x132 =>
  some (.inl (o94, x132))
  ) else (
  zb1 (f_X12_down o94 k95) fun (o133 : Ob) =>
  nx (k95 + (1 : Int32)) fun x135 =>
  some (.inl (o133, x135))
  )
  )
  )) FU o75 (0 : Int32)) <| fun (o96 : Ob) =>
  zb1 (zl2 (fun (o109 : Ob) (k110 : Int32) => (
  gi (2 : Int32) 835 <|
  if o109 0 (Int32.toNatClampNeg (2 : Int32)) ≤ k110 then (
  some (.inr o109)
  ) else (
  gi k76 8 <|
  zb1 (f_X12_bitOf ((o109 45 (Int32.toNatClampNeg k76)) &&& (x81 ^^^ (-1 : Int32))) k110) fun (r117 : Int32) =>
  if r117 = 0 then (
  nx (k110 + (1 : Int32)) fun x119 =>
  some (.inl (o109, x119))
  ) else (
  zb1 (f_X12_up o109 k110) fun (o120 : Ob) =>
  nx (k110 + (1 : Int32)) fun x122 =>
  some (.inl (o120, x122))
  )
  )
  )) FU o96 (0 : Int32)) <| fun (o111 : Ob) =>
  nx (k76 + (1 : Int32)) fun x112 =>
  some (.inl (o111, x112))
  )
  )) FU o11 (0 : Int32)) <| fun (o77 : Ob) =>
  some (o77, r7)
  )
  )
def f_X12_draw (o_t : Ob) (v1 : Int32) : Option (Ob × Int32) :=
  nx (si o_t 46 (((o_t 46 0) * (1103515245 : Int32)) + (12345 : Int32))) fun o1 =>
  gn v1 <|
  some (o1, (((Int32.toUInt32 (o1 46 0)) >>> ((Int32.toUInt32 (8 : Int32)) &&& Int32.toUInt32 31)).toInt32) - (((Int32.toUInt32 (o1 46 0)) >>> ((Int32.toUInt32 (8 : Int32)) &&& Int32.toUInt32 31)).toInt32) / v1 * v1)
def f_X12_drawn (o_t : Ob) (v1 : Int32) (v2 : Int32) : Option (Ob × Int32) :=
  zb1 (f_X12_isIn v1 (1 : Int32) (40 : Int32)) fun (r1 : Int32) =>
  if r1 = 0 then (
  some (o_t, (-1 : Int32))
  ) else (
  gi (2 : Int32) 835 <|
  if o_t 0 (Int32.toNatClampNeg (2 : Int32)) = 0 then (
  some (o_t, (-1 : Int32))
  ) else (
  zb1 (f_X12_call o_t) fun (o4 : Ob) =>
  zb1 (f_X12_keeps o4) fun (o6 : Ob) =>
  nx (si o6 46 v2) fun o8 =>
  zb2 (zl3 (fun (o42 : Ob) (k43 : Int32) (k44 : Int32) => (
  if v1 ≤ k44 then (
  some (.inr (o42, k43))
  ) else (
  gi (7 : Int32) 835 <|
  if (40 : Int32) ≤ o42 0 (Int32.toNatClampNeg (7 : Int32)) then (
  some (.inr (o42, k43))
  ) else (
  zb2 (f_X12_draw o42 (3 : Int32)) fun (o50 : Ob) (r51 : Int32) =>
  nx (fun (j54 : Int32) => (
  gi (2 : Int32) 835 <|
  zb2 (f_X12_draw o50 (o50 0 (Int32.toNatClampNeg (2 : Int32)))) fun (o57 : Ob) (r58 : Int32) =>
  nx (fun (j64 : Int32) (q65 : Ob) => (
  zb2 (f_X12_logs q65 j64) fun (o67 : Ob) (r68 : Int32) =>
  nx (k43 + r68) fun x70 =>
  nx (k44 + (1 : Int32)) fun x71 =>
  some (.inl (o67, x70, x71))
  )) fun K66 =>
  if j54 = 0 then (
  zb2 (f_X12_draw o57 (r58 + (1 : Int32))) fun (o72 : Ob) (r73 : Int32) =>
  K66 r73 o72
  ) else (
  K66 r58 o57
  )
  )) fun K55 =>
  if r51 = 0 then (
  K55 (1 : Int32)
  ) else (
  K55 (0 : Int32)
  )
  )
  )
  )) FU o8 (0 : Int32) (0 : Int32)) <| fun (o45 : Ob) (k46 : Int32) =>
  some (o45, k46)
  )
  )
def f_X12_image (o_t : Ob) (v1 : Int32) : Option (Ob × Int32) :=
  zb1 (f_X12_isIn v1 (0 : Int32) (1 : Int32)) fun (r1 : Int32) =>
  if r1 = 0 then (
  some (o_t, (0 : Int32))
  ) else (
  zb1 (f_X12_copies 835 (o_t 0) 1670 (o_t 1) (0 : Int32) ((835 : Int32) * v1)) fun (o3 : Fn) =>
  nx (sa o_t 1 o3) fun o5 =>
  gi v1 2 <|
  nx (sa o5 4 (upd (o5 4) (Int32.toNatClampNeg v1) (vp_nar .boolean (1 : Int32)))) fun o7 =>
  some (o7, (1 : Int32))
  )
def f_X12_restore (o_t : Ob) (v1 : Int32) : Option (Ob × Int32) :=
  zb1 (f_X12_isIn v1 (0 : Int32) (1 : Int32)) fun (r1 : Int32) =>
  if r1 = 0 then (
  some (o_t, (0 : Int32))
  ) else (
  gi v1 2 <|
  if o_t 4 (Int32.toNatClampNeg v1) = 0 then (
  some (o_t, (0 : Int32))
  ) else (
  zb1 (f_X12_copies 1670 (o_t 1) 835 (o_t 0) ((835 : Int32) * v1) (0 : Int32)) fun (o4 : Fn) =>
  nx (sa o_t 0 o4) fun o6 =>
  nx (si o6 5 (0 : Int32)) fun o7 =>
  some (o7, (1 : Int32))
  )
  )
def f_X0_close (o_t : Ob) : Option (Ob) :=
  nx (si o_t 0 (0 : Int32)) fun o1 =>
  nx (si o1 3 (0 : Int32)) fun o2 =>
  some o2
def f_X0_begin (o_t : Ob) (v1 : Int32) (v2 : Int32) : Option (Ob) :=
  nx (si o_t 0 (1 : Int32)) fun o1 =>
  nx (si o1 1 v1) fun o2 =>
  nx (si o2 2 v2) fun o3 =>
  nx (si o3 3 (0 : Int32)) fun o4 =>
  nx (si o4 4 (0 : Int32)) fun o5 =>
  nx (si o5 5 (0 : Int32)) fun o6 =>
  nx (si o6 6 (0 : Int32)) fun o7 =>
  some o7
def f_X0_takes (o_t : Ob) (v1 : Int32) : Option (Int32) :=
  if o_t 1 0 = (0 : Int32) then (
  some (1 : Int32)
  ) else (
  if o_t 1 0 = (1 : Int32) then (
  if v1 = 0 then (
  some (1 : Int32)
  ) else (
  if v1 = (1 : Int32) then (
  some (1 : Int32)
  ) else (
  some (0 : Int32)
  )
  )
  ) else (
  if o_t 1 0 = (2 : Int32) then (
  if v1 = (2 : Int32) then (
  some (1 : Int32)
  ) else (
  if v1 = (3 : Int32) then (
  some (1 : Int32)
  ) else (
  some (0 : Int32)
  )
  )
  ) else (
  if v1 = (3 : Int32) then (
  some (1 : Int32)
  ) else (
  some (0 : Int32)
  )
  )))
def f_X0_write (o_t : Ob) (v1 : Int32) (v2 : Int32) (v3 : Int32) : Option (Ob) :=
  if o_t 0 0 = 0 then (
  some o_t
  ) else (
  if o_t 3 0 < o_t 2 0 then (
  zb1 (f_X0_takes o_t v1) fun (r1 : Int32) =>
  if r1 = 0 then (
  nx (si o_t 4 ((o_t 4 0) + (1 : Int32))) fun o11 =>
  some o11
  ) else (
  gi (o_t 3 0) 30 <|
  nx (sa o_t 7 (upd (o_t 7) (Int32.toNatClampNeg (o_t 3 0)) v1)) fun o4 =>
  gi (o4 3 0) 30 <|
  nx (sa o4 8 (upd (o4 8) (Int32.toNatClampNeg (o4 3 0)) v2)) fun o6 =>
  gi (o6 3 0) 30 <|
  nx (sa o6 9 (upd (o6 9) (Int32.toNatClampNeg (o6 3 0)) v3)) fun o8 =>
  nx (si o8 3 ((o8 3 0) + (1 : Int32))) fun o9 =>
  nx (si o9 6 ((o9 6 0) + v3)) fun o10 =>
  some o10
  )
  ) else (
  nx (si o_t 5 ((o_t 5 0) + (1 : Int32))) fun o13 =>
  some o13
  )
  )
def f_X0_copyFrom (o_t : Ob) (o_p1 : Ob) : Option (Ob) :=
  gz (o_p1 0 0) <|
  nx (si o_t 0 (o_p1 0 0)) fun o2 =>
  nx (si o2 1 (o_p1 1 0)) fun o3 =>
  nx (si o3 2 (o_p1 2 0)) fun o4 =>
  nx (si o4 3 (o_p1 3 0)) fun o5 =>
  nx (si o5 4 (o_p1 4 0)) fun o6 =>
  nx (si o6 5 (o_p1 5 0)) fun o7 =>
  nx (si o7 6 (o_p1 6 0)) fun o8 =>
  gc (0 : Int32) (0 : Int32) (o8 3 0) 30 30 <|
  nx (sa o8 7 (va_cpy (o_p1 7) (o8 7) (Int32.toNatClampNeg (0 : Int32)) (Int32.toNatClampNeg (0 : Int32)) (Int32.toNatClampNeg (o8 3 0)))) fun o10 =>
  gc (0 : Int32) (0 : Int32) (o10 3 0) 30 30 <|
  nx (sa o10 8 (va_cpy (o_p1 8) (o10 8) (Int32.toNatClampNeg (0 : Int32)) (Int32.toNatClampNeg (0 : Int32)) (Int32.toNatClampNeg (o10 3 0)))) fun o12 =>
  gc (0 : Int32) (0 : Int32) (o12 3 0) 30 30 <|
  nx (sa o12 9 (va_cpy (o_p1 9) (o12 9) (Int32.toNatClampNeg (0 : Int32)) (Int32.toNatClampNeg (0 : Int32)) (Int32.toNatClampNeg (o12 3 0)))) fun o14 =>
  some o14
def f_X1_add (o_t : Ob) (v1 : Int32) (v2 : Int32) (v3 : Int32) : Option (Ob) :=
  if (9 : Int32) ≤ o_t 0 0 then (
  some o_t
  ) else (
  gi (o_t 0 0) 9 <|
  nx (sa o_t 1 (upd (o_t 1) (Int32.toNatClampNeg (o_t 0 0)) v1)) fun o2 =>
  gi (o2 0 0) 9 <|
  nx (sa o2 2 (upd (o2 2) (Int32.toNatClampNeg (o2 0 0)) v2)) fun o4 =>
  gi (o4 0 0) 9 <|
  nx (sa o4 3 (upd (o4 3) (Int32.toNatClampNeg (o4 0 0)) v3)) fun o6 =>
  nx (si o6 0 ((o6 0 0) + (1 : Int32))) fun o7 =>
  some o7
  )
def f_X2_newCall (o_t : Ob) : Option (Ob) :=
  nx (si o_t 2 (1 : Int32)) fun o1 =>
  some o1
def f_X2_pass (o_t : Ob) : Option (Ob) :=
  nx (fun (q4 : Ob) => (
  zb1 (zl2 (fun (o14 : Ob) (k15 : Int32) => (
  if (4 : Int32) < k15 then (
  some (.inr o14)
  ) else (
  if (60 : Int32) ≤ o14 1 0 then (
  some (.inr o14)
  ) else (
  nx (si o14 1 ((o14 1 0) + (1 : Int32))) fun o19 =>
  gi (o14 1 0) 60 <|
  nx (sa o19 0 (upd (o19 0) (Int32.toNatClampNeg (o14 1 0)) k15)) fun o21 =>
  nx (k15 + (1 : Int32)) fun x22 =>
  some (.inl (o21, x22))
  )
  )
  )) FU q4 (1 : Int32)) <| fun (o16 : Ob) =>
  some o16
  )) fun K5 =>
  if o_t 2 0 = 0 then (
  K5 o_t
  ) else (
  nx (si o_t 1 (0 : Int32)) fun o26 =>
  nx (si o26 2 (0 : Int32)) fun o27 =>
  K5 o27
  )
def f_X3_place (o_t : Ob) (v1 : Int32) : Option (Int32) :=
  nx ((o_t 1 0) + v1) fun x1 =>
  if (8 : Int32) ≤ x1 then (
  some (x1 - (8 : Int32))
  ) else (
  some x1
  )
def f_X3_forget (o_t : Ob) : Option (Ob) :=
  nx (si o_t 2 (0 : Int32)) fun o1 =>
  some o1
def f_X10_copyFrom (o_t : Ob) (o_p1 : Ob) : Option (Ob) :=
  nx (si o_t 0 (o_p1 0 0)) fun o1 =>
  gc (0 : Int32) (0 : Int32) (8 : Int32) 8 8 <|
  nx (sa o1 1 (va_cpy (o_p1 1) (o1 1) (Int32.toNatClampNeg (0 : Int32)) (Int32.toNatClampNeg (0 : Int32)) (Int32.toNatClampNeg (8 : Int32)))) fun o3 =>
  gc (0 : Int32) (0 : Int32) (8 : Int32) 8 8 <|
  nx (sa o3 2 (va_cpy (o_p1 2) (o3 2) (Int32.toNatClampNeg (0 : Int32)) (Int32.toNatClampNeg (0 : Int32)) (Int32.toNatClampNeg (8 : Int32)))) fun o5 =>
  gc (0 : Int32) (0 : Int32) (8 : Int32) 8 8 <|
  nx (sa o5 3 (va_cpy (o_p1 3) (o5 3) (Int32.toNatClampNeg (0 : Int32)) (Int32.toNatClampNeg (0 : Int32)) (Int32.toNatClampNeg (8 : Int32)))) fun o7 =>
  gc (0 : Int32) (0 : Int32) (8 : Int32) 8 8 <|
  nx (sa o7 4 (va_cpy (o_p1 4) (o7 4) (Int32.toNatClampNeg (0 : Int32)) (Int32.toNatClampNeg (0 : Int32)) (Int32.toNatClampNeg (8 : Int32)))) fun o9 =>
  some o9
def f_X8_copyFrom (o_t : Ob) (o_p1 : Ob) : Option (Ob) :=
  nx (si o_t 0 (o_p1 0 0)) fun o1 =>
  nx (si o1 1 (o_p1 1 0)) fun o2 =>
  nx (si o2 2 (o_p1 2 0)) fun o3 =>
  nx (si o3 3 (o_p1 3 0)) fun o4 =>
  gc (0 : Int32) (0 : Int32) (8 : Int32) 8 8 <|
  nx (sa o4 4 (va_cpy (o_p1 4) (o4 4) (Int32.toNatClampNeg (0 : Int32)) (Int32.toNatClampNeg (0 : Int32)) (Int32.toNatClampNeg (8 : Int32)))) fun o6 =>
  gc (0 : Int32) (0 : Int32) (8 : Int32) 8 8 <|
  nx (sa o6 5 (va_cpy (o_p1 5) (o6 5) (Int32.toNatClampNeg (0 : Int32)) (Int32.toNatClampNeg (0 : Int32)) (Int32.toNatClampNeg (8 : Int32)))) fun o8 =>
  gc (0 : Int32) (0 : Int32) (8 : Int32) 8 8 <|
  nx (sa o8 6 (va_cpy (o_p1 6) (o8 6) (Int32.toNatClampNeg (0 : Int32)) (Int32.toNatClampNeg (0 : Int32)) (Int32.toNatClampNeg (8 : Int32)))) fun o10 =>
  some o10
def f_X4_copyFrom (o_t : Ob) (o_p1 : Ob) : Option (Ob) :=
  nx (si o_t 0 (o_p1 0 0)) fun o1 =>
  gc (0 : Int32) (0 : Int32) (o1 0 0) 40 40 <|
  nx (sa o1 1 (va_cpy (o_p1 1) (o1 1) (Int32.toNatClampNeg (0 : Int32)) (Int32.toNatClampNeg (0 : Int32)) (Int32.toNatClampNeg (o1 0 0)))) fun o3 =>
  gc (0 : Int32) (0 : Int32) (o3 0 0) 40 40 <|
  nx (sa o3 2 (va_cpy (o_p1 2) (o3 2) (Int32.toNatClampNeg (0 : Int32)) (Int32.toNatClampNeg (0 : Int32)) (Int32.toNatClampNeg (o3 0 0)))) fun o5 =>
  gc (0 : Int32) (0 : Int32) (o5 0 0) 40 40 <|
  nx (sa o5 3 (va_cpy (o_p1 3) (o5 3) (Int32.toNatClampNeg (0 : Int32)) (Int32.toNatClampNeg (0 : Int32)) (Int32.toNatClampNeg (o5 0 0)))) fun o7 =>
  gc (0 : Int32) (0 : Int32) ((o7 0 0) * (8 : Int32)) 320 320 <|
  nx (sa o7 4 (va_cpy (o_p1 4) (o7 4) (Int32.toNatClampNeg (0 : Int32)) (Int32.toNatClampNeg (0 : Int32)) (Int32.toNatClampNeg ((o7 0 0) * (8 : Int32))))) fun o9 =>
  some o9
def f_X9_copyFrom (o_t : Ob) (o_t_wares : Ob) (o_t_shelf : Ob) (o_t_log : Ob) (o_t_b0 : Ob) (o_t_b1 : Ob) (o_t_b2 : Ob) (o_p1 : Ob) (o_p1_wares : Ob) (o_p1_shelf : Ob) (o_p1_log : Ob) (o_p1_b0 : Ob) (o_p1_b1 : Ob) (o_p1_b2 : Ob) : Option (Ob × Ob × Ob × Ob × Ob × Ob × Ob) :=
  zb1 (f_X10_copyFrom o_t_wares o_p1_wares) fun (o1 : Ob) =>
  zb1 (f_X8_copyFrom o_t_shelf o_p1_shelf) fun (o3 : Ob) =>
  zb1 (f_X4_copyFrom o_t_log o_p1_log) fun (o5 : Ob) =>
  nx (si o_t 4 (o_p1 4 0)) fun o7 =>
  nx (si o7 5 (o_p1 5 0)) fun o8 =>
  nx (si o8 6 (o_p1 6 0)) fun o9 =>
  zb3 (zl4 (fun (o37 : Ob) (o38 : Ob) (o39 : Ob) (k40 : Int32) => (
  if (3 : Int32) ≤ k40 then (
  some (.inr (o37, o38, o39))
  ) else (
  gi k40 3 <|
  if k40 = (0 : Int32) then (
  zb1 (f_X0_copyFrom o37 o_p1_b0) fun (o47 : Ob) =>
  nx (k40 + (1 : Int32)) fun x49 =>
  some (.inl (o47, o38, o39, x49))
  ) else if k40 = (1 : Int32) then (
  zb1 (f_X0_copyFrom o38 o_p1_b1) fun (o50 : Ob) =>
  nx (k40 + (1 : Int32)) fun x52 =>
  some (.inl (o37, o50, o39, x52))
  ) else (
  zb1 (f_X0_copyFrom o39 o_p1_b2) fun (o53 : Ob) =>
  nx (k40 + (1 : Int32)) fun x55 =>
  some (.inl (o37, o38, o53, x55))
  )
  )
  )) FU o_t_b0 o_t_b1 o_t_b2 (0 : Int32)) <| fun (o41 : Ob) (o42 : Ob) (o43 : Ob) =>
  some (o9, o1, o3, o5, o41, o42, o43)
def f_X4_has (o_t : Ob) (v1 : Int32) : Option (Int32) :=
  if v1 < 0 then (
  some (0 : Int32)
  ) else (
  if o_t 0 0 ≤ v1 then (
  some (0 : Int32)
  ) else (
  some (1 : Int32)
  )
  )
def f_X4_isFull (o_t : Ob) : Option (Int32) :=
  if o_t 0 0 < (40 : Int32) then (
  some (0 : Int32)
  ) else (
  some (1 : Int32)
  )
def f_X4_densityBehind (o_t : Ob) (v1 : Int32) (v2 : Int32) : Option (Int32) :=
  gi ((v1 * (8 : Int32)) + v2) 320 <|
  some (o_t 4 (Int32.toNatClampNeg ((v1 * (8 : Int32)) + v2)))
def f_X4_add (o_t : Ob) (o_p3 : Ob) (v1 : Int32) (v2 : Int32) : Option (Ob) :=
  zb1 (f_X4_isFull o_t) fun (r1 : Int32) =>
  if r1 = 0 then (
  gi (o_t 0 0) 40 <|
  nx (sa o_t 1 (upd (o_t 1) (Int32.toNatClampNeg (o_t 0 0)) v1)) fun o4 =>
  gi (o4 0 0) 40 <|
  nx (sa o4 2 (upd (o4 2) (Int32.toNatClampNeg (o4 0 0)) v2)) fun o6 =>
  gi (o6 0 0) 40 <|
  nx (sa o6 3 (upd (o6 3) (Int32.toNatClampNeg (o6 0 0)) (o_p3 2 0))) fun o8 =>
  gc (0 : Int32) ((o8 0 0) * (8 : Int32)) (8 : Int32) 8 320 <|
  nx (sa o8 4 (va_cpy (o_p3 4) (o8 4) (Int32.toNatClampNeg (0 : Int32)) (Int32.toNatClampNeg ((o8 0 0) * (8 : Int32))) (Int32.toNatClampNeg (8 : Int32)))) fun o10 =>
  nx (si o10 0 ((o10 0 0) + (1 : Int32))) fun o11 =>
  some o11
  ) else (
  some o_t
  )
def f_X5_forget (o_t : Ob) : Option (Ob) :=
  nx (si o_t 7 (-1 : Int32)) fun o1 =>
  nx (si o1 8 (-1 : Int32)) fun o2 =>
  some o2
def f_X5_row (o_t : Ob) (v1 : Int32) : Option (Int32) :=
  if o_t 0 0 = 0 then (
  some ((v1 &&& (1 : Int32)) * (256 : Int32))
  ) else (
  some (v1 * (256 : Int32))
  )
def f_X10_sumSets__size (o_t : Ob) (n_p2 : Nat) (f_p2 : Fn) : Option (Fn) :=
  gi (0 : Int32) n_p2 <|
  nx ((upd (f_p2) (Int32.toNatClampNeg (0 : Int32)) (0 : Int32))) fun o2 =>
  zb1 (zl2 (fun (o30 : Fn) (k31 : Int32) => (
  if o_t 0 0 ≤ k31 then (
  some (.inr o30)
  ) else (
  nx ((1 : Int32) <<< (k31 &&& 31)) fun x35 =>
  zb1 (zl2 (fun (o45 : Fn) (k46 : Int32) => (
  if x35 ≤ k46 then (
  some (.inr o45)
  ) else (
  gi k46 n_p2 <|
  gi k31 8 <|
  gi (x35 + k46) n_p2 <|
  nx ((upd (o45) (Int32.toNatClampNeg (x35 + k46)) ((o45 (Int32.toNatClampNeg k46)) + (o_t 1 (Int32.toNatClampNeg k31))))) fun o54 =>
  nx (k46 + (1 : Int32)) fun x55 =>
  some (.inl (o54, x55))
  )
  )) FU o30 (0 : Int32)) <| fun (o47 : Fn) =>
  nx (k31 + (1 : Int32)) fun x48 =>
  some (.inl (o47, x48))
  )
  )) FU o2 (0 : Int32)) <| fun (o32 : Fn) =>
  some o32
def f_X10_sumSets__price (o_t : Ob) (n_p2 : Nat) (f_p2 : Fn) : Option (Fn) :=
  gi (0 : Int32) n_p2 <|
  nx ((upd (f_p2) (Int32.toNatClampNeg (0 : Int32)) (0 : Int32))) fun o2 =>
  zb1 (zl2 (fun (o30 : Fn) (k31 : Int32) => (
  if o_t 0 0 ≤ k31 then (
  some (.inr o30)
  ) else (
  nx ((1 : Int32) <<< (k31 &&& 31)) fun x35 =>
  zb1 (zl2 (fun (o45 : Fn) (k46 : Int32) => (
  if x35 ≤ k46 then (
  some (.inr o45)
  ) else (
  gi k46 n_p2 <|
  gi k31 8 <|
  gi (x35 + k46) n_p2 <|
  nx ((upd (o45) (Int32.toNatClampNeg (x35 + k46)) ((o45 (Int32.toNatClampNeg k46)) + (o_t 2 (Int32.toNatClampNeg k31))))) fun o54 =>
  nx (k46 + (1 : Int32)) fun x55 =>
  some (.inl (o54, x55))
  )
  )) FU o30 (0 : Int32)) <| fun (o47 : Fn) =>
  nx (k31 + (1 : Int32)) fun x48 =>
  some (.inl (o47, x48))
  )
  )) FU o2 (0 : Int32)) <| fun (o32 : Fn) =>
  some o32
def f_X5_begin (n_t : Nat) (o_t : Ob) (o_p1 : Ob) (v2 : Int32) : Option (Ob) :=
  nx (si o_t 6 (o_p1 0 0)) fun o1 =>
  zb1 (f_X10_sumSets__size o_p1 256 (o1 2)) fun (o2 : Fn) =>
  nx (sa o1 2 o2) fun o4 =>
  zb1 (f_X10_sumSets__price o_p1 256 (o4 3)) fun (o5 : Fn) =>
  nx (sa o4 3 o5) fun o7 =>
  nx (si o7 5 (0 : Int32)) fun o8 =>
  zb1 (zl2 (fun (o22 : Ob) (k23 : Int32) => (
  if (1 : Int32) <<< ((o22 6 0) &&& 31) ≤ k23 then (
  some (.inr o22)
  ) else (
  gi k23 256 <|
  if v2 < o22 2 (Int32.toNatClampNeg k23) then (
  nx (k23 + (1 : Int32)) fun x31 =>
  some (.inl (o22, x31))
  ) else (
  nx (si o22 5 ((o22 5 0) + (1 : Int32))) fun o32 =>
  gi (o22 5 0) 256 <|
  nx (sa o32 4 (upd (o32 4) (Int32.toNatClampNeg (o22 5 0)) k23)) fun o34 =>
  gi k23 n_t <|
  nx (sa o34 1 (upd (o34 1) (Int32.toNatClampNeg k23) (1000000 : Int32))) fun o36 =>
  nx (k23 + (1 : Int32)) fun x37 =>
  some (.inl (o36, x37))
  )
  )
  )) FU o8 (0 : Int32)) <| fun (o24 : Ob) =>
  gi (0 : Int32) n_t <|
  nx (sa o24 1 (upd (o24 1) (Int32.toNatClampNeg (0 : Int32)) (0 : Int32))) fun o26 =>
  nx (si o26 7 (0 : Int32)) fun o27 =>
  some o27
def f_X5_letDown (n_t : Nat) (o_t : Ob) (v1 : Int32) (v2 : Int32) : Option (Ob) :=
  zb1 (zl2 (fun (o17 : Ob) (k18 : Int32) => (
  if o17 5 0 ≤ k18 then (
  some (.inr o17)
  ) else (
  gi k18 256 <|
  nx (v1 + (o17 4 (Int32.toNatClampNeg k18))) fun x23 =>
  gi k18 256 <|
  if (o17 4 (Int32.toNatClampNeg k18)) &&& v2 = 0 then (
  nx (k18 + (1 : Int32)) fun x25 =>
  some (.inl (o17, x25))
  ) else (
  gi x23 n_t <|
  gi (x23 - v2) n_t <|
  if o17 1 (Int32.toNatClampNeg (x23 - v2)) ≤ o17 1 (Int32.toNatClampNeg x23) then (
  nx (k18 + (1 : Int32)) fun x28 =>
  some (.inl (o17, x28))
  ) else (
  gi x23 n_t <|
  gi (x23 - v2) n_t <|
  nx (sa o17 1 (upd (o17 1) (Int32.toNatClampNeg (x23 - v2)) (o17 1 (Int32.toNatClampNeg x23)))) fun o31 =>
  nx (k18 + (1 : Int32)) fun x32 =>
  some (.inl (o31, x32))
  )
  )
  )
  )) FU o_t (0 : Int32)) <| fun (o19 : Ob) =>
  some o19
def f_X5_letUp (n_t : Nat) (o_t : Ob) (v1 : Int32) (v2 : Int32) : Option (Ob) :=
  zb1 (zl2 (fun (o19 : Ob) (k20 : Int32) => (
  if o19 5 0 ≤ k20 then (
  some (.inr o19)
  ) else (
  gi k20 256 <|
  nx (v1 + (o19 4 (Int32.toNatClampNeg k20))) fun x25 =>
  gi k20 256 <|
  if (o19 4 (Int32.toNatClampNeg k20)) &&& v2 = 0 then (
  nx (k20 + (1 : Int32)) fun x27 =>
  some (.inl (o19, x27))
  ) else (
  gi (x25 - v2) n_t <|
  gi v2 256 <|
  gi x25 n_t <|
  if o19 1 (Int32.toNatClampNeg x25) ≤ (o19 1 (Int32.toNatClampNeg (x25 - v2))) + (o19 3 (Int32.toNatClampNeg v2)) then (
  nx (k20 + (1 : Int32)) fun x31 =>
  some (.inl (o19, x31))
  ) else (
  gi (x25 - v2) n_t <|
  gi v2 256 <|
  gi x25 n_t <|
  nx (sa o19 1 (upd (o19 1) (Int32.toNatClampNeg x25) ((o19 1 (Int32.toNatClampNeg (x25 - v2))) + (o19 3 (Int32.toNatClampNeg v2))))) fun o35 =>
  nx (k20 + (1 : Int32)) fun x36 =>
  some (.inl (o35, x36))
  )
  )
  )
  )) FU o_t (0 : Int32)) <| fun (o21 : Ob) =>
  some o21
def f_X5_moveAny (n_t : Nat) (o_t : Ob) (v1 : Int32) (v2 : Int32) : Option (Ob) :=
  zb1 (zl2 (fun (o10 : Ob) (k11 : Int32) => (
  if o10 5 0 ≤ k11 then (
  some (.inr o10)
  ) else (
  gi k11 256 <|
  gi k11 256 <|
  gi (v1 + (o10 4 (Int32.toNatClampNeg k11))) n_t <|
  gi (v2 + (o10 4 (Int32.toNatClampNeg k11))) n_t <|
  nx (sa o10 1 (upd (o10 1) (Int32.toNatClampNeg (v2 + (o10 4 (Int32.toNatClampNeg k11)))) (o10 1 (Int32.toNatClampNeg (v1 + (o10 4 (Int32.toNatClampNeg k11))))))) fun o51 =>
  nx (k11 + (1 : Int32)) fun x52 =>
  some (.inl (o51, x52))
  )
  )) FU o_t (0 : Int32)) <| fun (o12 : Ob) =>
  zb1 (zl2 (fun (o19 : Ob) (k20 : Int32) => (
  if o19 6 0 ≤ k20 then (
  some (.inr o19)
  ) else (
  zb1 (f_X5_letDown n_t o19 v2 ((1 : Int32) <<< (k20 &&& 31))) fun (o40 : Ob) =>
  nx (k20 + (1 : Int32)) fun x42 =>
  some (.inl (o40, x42))
  )
  )) FU o12 (0 : Int32)) <| fun (o21 : Ob) =>
  zb1 (zl2 (fun (o28 : Ob) (k29 : Int32) => (
  if o28 6 0 ≤ k29 then (
  some (.inr o28)
  ) else (
  zb1 (f_X5_letUp n_t o28 v2 ((1 : Int32) <<< (k29 &&& 31))) fun (o33 : Ob) =>
  nx (k29 + (1 : Int32)) fun x35 =>
  some (.inl (o33, x35))
  )
  )) FU o21 (0 : Int32)) <| fun (o30 : Ob) =>
  some o30
def f_X5_pay (n_t : Nat) (o_t : Ob) (v1 : Int32) (v2 : Int32) (v3 : Int32) (v4 : Int32) : Option (Ob) :=
  zb1 (zl2 (fun (o30 : Ob) (k31 : Int32) => (
  if o30 5 0 ≤ k31 then (
  some (.inr o30)
  ) else (
  gi k31 256 <|
  nx (o30 4 (Int32.toNatClampNeg k31)) fun x36 =>
  gi (v1 + x36) n_t <|
  nx (fun (j39 : Int32) => (
  nx ((o30 1 (Int32.toNatClampNeg (v1 + x36))) + j39) fun x41 =>
  nx (fun (j43 : Int32) => (
  nx (fun (_ : Unit) => (
  gi (v1 + x36) n_t <|
  nx (sa o30 1 (upd (o30 1) (Int32.toNatClampNeg (v1 + x36)) (1000000 : Int32))) fun o52 =>
  nx (k31 + (1 : Int32)) fun x53 =>
  some (.inl (o52, x53))
  )) fun K50 =>
  if j43 = 0 then (
  if x41 ≤ (1000000 : Int32) then (
  gi (v1 + x36) n_t <|
  nx (sa o30 1 (upd (o30 1) (Int32.toNatClampNeg (v1 + x36)) x41)) fun o55 =>
  nx (k31 + (1 : Int32)) fun x56 =>
  some (.inl (o55, x56))
  ) else (
  K50 ()
  )
  ) else (
  K50 ()
  )
  )) fun K44 =>
  if x36 &&& v4 = v4 then (
  K44 (0 : Int32)
  ) else (
  K44 (1 : Int32)
  )
  )) fun K40 =>
  if x36 &&& v2 = 0 then (
  K40 v3
  ) else (
  K40 (0 : Int32)
  )
  )
  )) FU o_t (0 : Int32)) <| fun (o32 : Ob) =>
  some o32
def f_X5_follow (n_t : Nat) (o_t : Ob) (o_p1_wares : Ob) (o_p1_shelf : Ob) (o_p1_log : Ob) (v2 : Int32) (v3 : Int32) : Option (Ob) :=
  nx (fun (q4 : Ob) => (
  nx (fun (j7 : Int32) => (
  nx (q4 7 0) fun x9 =>
  zb1 (zl2 (fun (o52 : Ob) (k53 : Int32) => (
  if o_p1_log 0 0 ≤ k53 then (
  some (.inr o52)
  ) else (
  gi k53 40 <|
  nx (o_p1_log 1 (Int32.toNatClampNeg k53)) fun x58 =>
  nx (fun (j66 : Int32) => (
  zb1 (f_X5_row o52 k53) fun (r68 : Int32) =>
  zb1 (f_X5_row o52 (k53 + (1 : Int32))) fun (r70 : Int32) =>
  zb1 (f_X5_moveAny n_t o52 r68 r70) fun (o72 : Ob) =>
  zb1 (f_X5_row o72 (k53 + (1 : Int32))) fun (r74 : Int32) =>
  nx (fun (j78 : Int32) => (
  zb1 (f_X5_pay n_t o72 r74 ((1 : Int32) <<< (x58 &&& 31)) j78 j7) fun (o80 : Ob) =>
  nx (si o80 7 (k53 + (1 : Int32))) fun o82 =>
  nx (k53 + (1 : Int32)) fun x83 =>
  some (.inl (o82, x83))
  )) fun K79 =>
  if j66 = 0 then (
  gi x58 8 <|
  K79 (o_p1_wares 3 (Int32.toNatClampNeg x58))
  ) else (
  K79 (1000000 : Int32)
  )
  )) fun K67 =>
  nx (fun (_ : Unit) => (
  K67 (0 : Int32)
  )) fun K62 =>
  if o_p1_shelf 1 0 = 0 then (
  gi x58 8 <|
  if v2 < o_p1_wares 1 (Int32.toNatClampNeg x58) then (
  K62 ()
  ) else (
  K67 (1 : Int32)
  )
  ) else (
  K62 ()
  )
  )
  )) FU q4 x9) <| fun (o54 : Ob) =>
  some o54
  )) fun K8 =>
  if v3 = (-1 : Int32) then (
  K8 (0 : Int32)
  ) else (
  K8 ((1 : Int32) <<< (v3 &&& 31))
  )
  )) fun K5 =>
  if o_t 7 0 = (-1 : Int32) then (
  zb1 (f_X5_begin n_t o_t o_p1_wares v2) fun (o92 : Ob) =>
  K5 o92
  ) else (
  K5 o_t
  )
def f_X5_leastSet (n_t : Nat) (o_t : Ob) (v1 : Int32) : Option (Int32) :=
  zb1 (zl2 (fun (k17 : Int32) (k18 : Int32) => (
  if o_t 5 0 ≤ k18 then (
  some (.inr k17)
  ) else (
  zb1 (f_X5_row o_t v1) fun (r22 : Int32) =>
  gi k18 256 <|
  gi (r22 + (o_t 4 (Int32.toNatClampNeg k18))) n_t <|
  zb1 (f_X5_row o_t v1) fun (r26 : Int32) =>
  gi (r26 + k17) n_t <|
  if o_t 1 (Int32.toNatClampNeg (r26 + k17)) ≤ o_t 1 (Int32.toNatClampNeg (r22 + (o_t 4 (Int32.toNatClampNeg k18)))) then (
  nx (k18 + (1 : Int32)) fun x29 =>
  some (.inl (k17, x29))
  ) else (
  gi k18 256 <|
  nx (o_t 4 (Int32.toNatClampNeg k18)) fun x31 =>
  nx (k18 + (1 : Int32)) fun x32 =>
  some (.inl (x31, x32))
  )
  )
  )) FU (0 : Int32) (1 : Int32)) <| fun (k19 : Int32) =>
  some k19
def f_X5_least (n_t : Nat) (o_t : Ob) (v1 : Int32) : Option (Int32) :=
  zb1 (f_X5_row o_t v1) fun (r1 : Int32) =>
  zb1 (f_X5_leastSet n_t o_t v1) fun (r3 : Int32) =>
  gi (r1 + r3) n_t <|
  some (o_t 1 (Int32.toNatClampNeg (r1 + r3)))
def f_X5_servingCost (o_t : Ob) (o_p1_wares : Ob) (o_p1_log : Ob) (v2 : Int32) : Option (Int32) :=
  gi v2 40 <|
  nx (o_p1_log 1 (Int32.toNatClampNeg v2)) fun x2 =>
  gi v2 40 <|
  if ((o_t 9 (Int32.toNatClampNeg v2)) >>> (x2 &&& 31)) &&& (1 : Int32) = (1 : Int32) then (
  some (0 : Int32)
  ) else (
  gi x2 8 <|
  some (o_p1_wares 3 (Int32.toNatClampNeg x2))
  )
def f_X5_firstAhead (n_t : Nat) (o_t : Ob) (v1 : Int32) (v2 : Int32) (v3 : Int32) : Option (Int32) :=
  ze0 (zl1 (fun (k10 : Int32) => (
  if o_t 5 0 ≤ k10 then (
  some (.inr (.inl ()))
  ) else (
  gi k10 256 <|
  nx (o_t 4 (Int32.toNatClampNeg k10)) fun x14 =>
  gi (v1 + x14) n_t <|
  gi (v2 &&& (x14 ^^^ (-1 : Int32))) 256 <|
  if (o_t 1 (Int32.toNatClampNeg (v1 + x14))) + (o_t 3 (Int32.toNatClampNeg (v2 &&& (x14 ^^^ (-1 : Int32))))) = v3 then (
  some (.inr (.inr x14))
  ) else (
  nx (k10 + (1 : Int32)) fun x17 =>
  some (.inl x17)
  )
  )
  )) FU (0 : Int32)) (fun r => some r) <|
  some (0 : Int32)
def f_X5_trace (n_t : Nat) (o_t : Ob) (o_p1_wares : Ob) (o_p1_log : Ob) : Option (Ob) :=
  if o_t 8 0 = o_t 7 0 then (
  some o_t
  ) else (
  if (1 : Int32) ≤ o_t 7 0 then (
  zb1 (f_X5_leastSet n_t o_t (o_t 7 0)) fun (r1 : Int32) =>
  gi ((o_t 7 0) - (1 : Int32)) 40 <|
  nx (sa o_t 9 (upd (o_t 9) (Int32.toNatClampNeg ((o_t 7 0) - (1 : Int32))) r1)) fun o4 =>
  nx ((o4 7 0) - (1 : Int32)) fun x5 =>
  zb1 (zl2 (fun (o31 : Ob) (k32 : Int32) => (
  if k32 ≤ 0 then (
  some (.inr o31)
  ) else (
  zb1 (f_X5_row o31 (k32 + (1 : Int32))) fun (r37 : Int32) =>
  gi k32 40 <|
  gi (r37 + (o31 9 (Int32.toNatClampNeg k32))) n_t <|
  zb1 (f_X5_servingCost o31 o_p1_wares o_p1_log k32) fun (r41 : Int32) =>
  nx ((o31 1 (Int32.toNatClampNeg (r37 + (o31 9 (Int32.toNatClampNeg k32))))) - r41) fun x43 =>
  zb1 (f_X5_row o31 k32) fun (r44 : Int32) =>
  gi k32 40 <|
  zb1 (f_X5_firstAhead n_t o31 r44 (o31 9 (Int32.toNatClampNeg k32)) x43) fun (r47 : Int32) =>
  gi (k32 - (1 : Int32)) 40 <|
  nx (sa o31 9 (upd (o31 9) (Int32.toNatClampNeg (k32 - (1 : Int32))) r47)) fun o50 =>
  nx (k32 + (-1 : Int32)) fun x51 =>
  some (.inl (o50, x51))
  )
  )) FU o4 x5) <| fun (o33 : Ob) =>
  nx (si o33 8 (o33 7 0)) fun o34 =>
  some o34
  ) else (
  some o_t
  )
  )
def f_X5_paysAt (o_t : Ob) (o_p1_wares : Ob) (o_p1_log : Ob) (v2 : Int32) : Option (Int32) :=
  nx (fun (j3 : Int32) => (
  gi v2 40 <|
  gi ((o_t 9 (Int32.toNatClampNeg v2)) &&& (j3 ^^^ (-1 : Int32))) 256 <|
  zb1 (f_X5_servingCost o_t o_p1_wares o_p1_log v2) fun (r7 : Int32) =>
  some ((o_t 3 (Int32.toNatClampNeg ((o_t 9 (Int32.toNatClampNeg v2)) &&& (j3 ^^^ (-1 : Int32))))) + r7)
  )) fun K4 =>
  if v2 = 0 then (
  K4 (0 : Int32)
  ) else (
  gi (v2 - (1 : Int32)) 40 <|
  K4 (o_t 9 (Int32.toNatClampNeg (v2 - (1 : Int32))))
  )
def f_X6_hasPlaceFor (o_t : Ob) (v1 : Int32) : Option (Int32) :=
  if (440 : Int32) < (o_t 1 0) + v1 then (
  some (0 : Int32)
  ) else (
  some (1 : Int32)
  )
def f_X6_addNumber (o_t : Ob) (v1 : Int32) : Option (Ob) :=
  zb1 (zl2 (fun (o9 : Ob) (k10 : Int32) => (
  if k10 < 0 then (
  some (.inr o9)
  ) else (
  if (440 : Int32) ≤ o9 1 0 then (
  some (.inr o9)
  ) else (
  nx (si o9 1 ((o9 1 0) + (1 : Int32))) fun o14 =>
  gi (o9 1 0) 440 <|
  nx (sa o14 0 (upd (o14 0) (Int32.toNatClampNeg (o9 1 0)) ((v1 >>> (k10 &&& 31)) &&& (255 : Int32)))) fun o16 =>
  nx (k10 + (-8 : Int32)) fun x17 =>
  some (.inl (o16, x17))
  )
  )
  )) FU o_t (24 : Int32)) <| fun (o11 : Ob) =>
  some o11
def f_X6_fail (o_t : Ob) (v1 : Int32) : Option (Ob × Int32) :=
  nx (si o_t 2 v1) fun o1 =>
  nx (si o1 3 (o1 14 0)) fun o2 =>
  some (o2, (0 : Int32))
def f_X6_readRun (o_t : Ob) : Option (Ob) :=
  nx (si o_t 16 (0 : Int32)) fun o1 =>
  zb3 (zl3 (fun (o34 : Ob) (k35 : Int32) (k36 : Int32) => (
  if o34 1 0 ≤ o34 15 0 then (
  some (.inr (o34, k35, k36))
  ) else (
  gi (o34 15 0) 440 <|
  nx (o34 0 (Int32.toNatClampNeg (o34 15 0))) fun x55 =>
  nx (fun (j69 : Int32) (j70 : Int32) (q71 : Ob) => (
  nx (si q71 15 ((q71 15 0) + (1 : Int32))) fun o73 =>
  some (.inl (o73, j69, j70))
  )) fun K72 =>
  nx (fun (_ : Unit) => (
  if x55 < (48 : Int32) then (
  some (.inr (o34, k35, k36))
  ) else (
  if (57 : Int32) < x55 then (
  some (.inr (o34, k35, k36))
  ) else (
  nx (si o34 16 ((((o34 16 0) * (10 : Int32)) + x55) - (48 : Int32))) fun o74 =>
  nx (k36 + (1 : Int32)) fun x75 =>
  K72 k35 x75 o74
  )
  )
  )) fun K60 =>
  if x55 < (97 : Int32) then (
  K60 ()
  ) else (
  if (122 : Int32) < x55 then (
  K60 ()
  ) else (
  nx (si o34 16 ((o34 16 0) + (((x55 - (97 : Int32)) + (1 : Int32)) <<< (((5 : Int32) * k35) &&& 31)))) fun o78 =>
  nx (k35 + (1 : Int32)) fun x79 =>
  K72 x79 k36 o78
  )
  )
  )
  )) FU o1 (0 : Int32) (0 : Int32)) <| fun (o37 : Ob) (k38 : Int32) (k39 : Int32) =>
  nx (fun (_ : Unit) => (
  if k38 = 0 then (
  if (2 : Int32) < k39 then (
  nx (si o37 13 (0 : Int32)) fun o45 =>
  some o45
  ) else (
  nx (si o37 13 (3 : Int32)) fun o46 =>
  some o46
  )
  ) else (
  nx (si o37 13 (0 : Int32)) fun o44 =>
  some o44
  )
  )) fun K43 =>
  if k39 = 0 then (
  if (6 : Int32) < k38 then (
  K43 ()
  ) else (
  nx (si o37 13 (2 : Int32)) fun o49 =>
  some o49
  )
  ) else (
  K43 ()
  )
def f_X6_isSign (v0 : Int32) : Option (Int32) :=
  if v0 = (59 : Int32) then (
  some (1 : Int32)
  ) else (
  if v0 = (91 : Int32) then (
  some (1 : Int32)
  ) else (
  if v0 = (93 : Int32) then (
  some (1 : Int32)
  ) else (
  some (0 : Int32)
  )
  )
  )
def f_X6_advance (o_t : Ob) : Option (Ob) :=
  zb1 (zl1 (fun (o6 : Ob) => (
  if o6 1 0 ≤ o6 15 0 then (
  some (.inr o6)
  ) else (
  gi (o6 15 0) 440 <|
  if o6 0 (Int32.toNatClampNeg (o6 15 0)) = (32 : Int32) then (
  nx (si o6 15 ((o6 15 0) + (1 : Int32))) fun o28 =>
  some (.inl o28)
  ) else (
  some (.inr o6)
  )
  )
  )) FU o_t) <| fun (o7 : Ob) =>
  nx (si o7 14 (o7 15 0)) fun o8 =>
  if o8 15 0 < o8 1 0 then (
  zb1 (f_X6_readRun o8) fun (o9 : Ob) =>
  if o9 15 0 = o9 14 0 then (
  gi (o9 15 0) 440 <|
  zb1 (f_X6_isSign (o9 0 (Int32.toNatClampNeg (o9 15 0)))) fun (r12 : Int32) =>
  nx (fun (j16 : Int32) => (
  nx (si o9 13 j16) fun o18 =>
  nx (si o18 15 ((o18 15 0) + (1 : Int32))) fun o19 =>
  some o19
  )) fun K17 =>
  if r12 = 0 then (
  K17 (0 : Int32)
  ) else (
  gi (o9 15 0) 440 <|
  K17 (o9 0 (Int32.toNatClampNeg (o9 15 0)))
  )
  ) else (
  some o9
  )
  ) else (
  nx (si o8 13 (1 : Int32)) fun o23 =>
  some o23
  )
def f_X6_start (o_t : Ob) : Option (Ob × Int32) :=
  nx (si o_t 2 (0 : Int32)) fun o1 =>
  nx (si o1 15 (0 : Int32)) fun o2 =>
  if o2 1 0 ≤ (400 : Int32) then (
  zb1 (f_X6_advance o2) fun (o3 : Ob) =>
  some (o3, (1 : Int32))
  ) else (
  nx (si o2 14 (400 : Int32)) fun o5 =>
  zb2 (f_X6_fail o5 (1 : Int32)) fun (o6 : Ob) (r7 : Int32) =>
  gz r7 <|
  some (o6, r7)
  )
def f_X6_says__0 (o_t : Ob) : Option (Int32) :=
  if o_t 13 0 = (2 : Int32) then (
  if (o_t 15 0) - (o_t 14 0) = Int32.ofNat (sxL.getD 0 0) then (
  ze0 (zl1 (fun (k8 : Int32) => (
  if Int32.ofNat (sxL.getD 0 0) ≤ k8 then (
  some (.inr (.inl ()))
  ) else (
  gi ((o_t 14 0) + k8) 440 <|
  gi k8 (sxL.getD 0 0) <|
  if o_t 0 (Int32.toNatClampNeg ((o_t 14 0) + k8)) = (sxB.getD 0 []).getD (Int32.toNatClampNeg k8) 0 then (
  nx (k8 + (1 : Int32)) fun x13 =>
  some (.inl x13)
  ) else (
  some (.inr (.inr (0 : Int32)))
  )
  )
  )) FU (0 : Int32)) (fun r => some r) <|
  some (1 : Int32)
  ) else (
  some (0 : Int32)
  )
  ) else (
  some (0 : Int32)
  )
def f_X6_says__1 (o_t : Ob) : Option (Int32) :=
  if o_t 13 0 = (2 : Int32) then (
  if (o_t 15 0) - (o_t 14 0) = Int32.ofNat (sxL.getD 1 0) then (
  ze0 (zl1 (fun (k8 : Int32) => (
  if Int32.ofNat (sxL.getD 1 0) ≤ k8 then (
  some (.inr (.inl ()))
  ) else (
  gi ((o_t 14 0) + k8) 440 <|
  gi k8 (sxL.getD 1 0) <|
  if o_t 0 (Int32.toNatClampNeg ((o_t 14 0) + k8)) = (sxB.getD 1 []).getD (Int32.toNatClampNeg k8) 0 then (
  nx (k8 + (1 : Int32)) fun x13 =>
  some (.inl x13)
  ) else (
  some (.inr (.inr (0 : Int32)))
  )
  )
  )) FU (0 : Int32)) (fun r => some r) <|
  some (1 : Int32)
  ) else (
  some (0 : Int32)
  )
  ) else (
  some (0 : Int32)
  )
def f_X6_says__2 (o_t : Ob) : Option (Int32) :=
  if o_t 13 0 = (2 : Int32) then (
  if (o_t 15 0) - (o_t 14 0) = Int32.ofNat (sxL.getD 2 0) then (
  ze0 (zl1 (fun (k8 : Int32) => (
  if Int32.ofNat (sxL.getD 2 0) ≤ k8 then (
  some (.inr (.inl ()))
  ) else (
  gi ((o_t 14 0) + k8) 440 <|
  gi k8 (sxL.getD 2 0) <|
  if o_t 0 (Int32.toNatClampNeg ((o_t 14 0) + k8)) = (sxB.getD 2 []).getD (Int32.toNatClampNeg k8) 0 then (
  nx (k8 + (1 : Int32)) fun x13 =>
  some (.inl x13)
  ) else (
  some (.inr (.inr (0 : Int32)))
  )
  )
  )) FU (0 : Int32)) (fun r => some r) <|
  some (1 : Int32)
  ) else (
  some (0 : Int32)
  )
  ) else (
  some (0 : Int32)
  )
def f_X6_says__3 (o_t : Ob) : Option (Int32) :=
  if o_t 13 0 = (2 : Int32) then (
  if (o_t 15 0) - (o_t 14 0) = Int32.ofNat (sxL.getD 3 0) then (
  ze0 (zl1 (fun (k8 : Int32) => (
  if Int32.ofNat (sxL.getD 3 0) ≤ k8 then (
  some (.inr (.inl ()))
  ) else (
  gi ((o_t 14 0) + k8) 440 <|
  gi k8 (sxL.getD 3 0) <|
  if o_t 0 (Int32.toNatClampNeg ((o_t 14 0) + k8)) = (sxB.getD 3 []).getD (Int32.toNatClampNeg k8) 0 then (
  nx (k8 + (1 : Int32)) fun x13 =>
  some (.inl x13)
  ) else (
  some (.inr (.inr (0 : Int32)))
  )
  )
  )) FU (0 : Int32)) (fun r => some r) <|
  some (1 : Int32)
  ) else (
  some (0 : Int32)
  )
  ) else (
  some (0 : Int32)
  )
def f_X6_says__4 (o_t : Ob) : Option (Int32) :=
  if o_t 13 0 = (2 : Int32) then (
  if (o_t 15 0) - (o_t 14 0) = Int32.ofNat (sxL.getD 4 0) then (
  ze0 (zl1 (fun (k8 : Int32) => (
  if Int32.ofNat (sxL.getD 4 0) ≤ k8 then (
  some (.inr (.inl ()))
  ) else (
  gi ((o_t 14 0) + k8) 440 <|
  gi k8 (sxL.getD 4 0) <|
  if o_t 0 (Int32.toNatClampNeg ((o_t 14 0) + k8)) = (sxB.getD 4 []).getD (Int32.toNatClampNeg k8) 0 then (
  nx (k8 + (1 : Int32)) fun x13 =>
  some (.inl x13)
  ) else (
  some (.inr (.inr (0 : Int32)))
  )
  )
  )) FU (0 : Int32)) (fun r => some r) <|
  some (1 : Int32)
  ) else (
  some (0 : Int32)
  )
  ) else (
  some (0 : Int32)
  )
def f_X6_says__5 (o_t : Ob) : Option (Int32) :=
  if o_t 13 0 = (2 : Int32) then (
  if (o_t 15 0) - (o_t 14 0) = Int32.ofNat (sxL.getD 5 0) then (
  ze0 (zl1 (fun (k8 : Int32) => (
  if Int32.ofNat (sxL.getD 5 0) ≤ k8 then (
  some (.inr (.inl ()))
  ) else (
  gi ((o_t 14 0) + k8) 440 <|
  gi k8 (sxL.getD 5 0) <|
  if o_t 0 (Int32.toNatClampNeg ((o_t 14 0) + k8)) = (sxB.getD 5 []).getD (Int32.toNatClampNeg k8) 0 then (
  nx (k8 + (1 : Int32)) fun x13 =>
  some (.inl x13)
  ) else (
  some (.inr (.inr (0 : Int32)))
  )
  )
  )) FU (0 : Int32)) (fun r => some r) <|
  some (1 : Int32)
  ) else (
  some (0 : Int32)
  )
  ) else (
  some (0 : Int32)
  )
def f_X6_says__6 (o_t : Ob) : Option (Int32) :=
  if o_t 13 0 = (2 : Int32) then (
  if (o_t 15 0) - (o_t 14 0) = Int32.ofNat (sxL.getD 6 0) then (
  ze0 (zl1 (fun (k8 : Int32) => (
  if Int32.ofNat (sxL.getD 6 0) ≤ k8 then (
  some (.inr (.inl ()))
  ) else (
  gi ((o_t 14 0) + k8) 440 <|
  gi k8 (sxL.getD 6 0) <|
  if o_t 0 (Int32.toNatClampNeg ((o_t 14 0) + k8)) = (sxB.getD 6 []).getD (Int32.toNatClampNeg k8) 0 then (
  nx (k8 + (1 : Int32)) fun x13 =>
  some (.inl x13)
  ) else (
  some (.inr (.inr (0 : Int32)))
  )
  )
  )) FU (0 : Int32)) (fun r => some r) <|
  some (1 : Int32)
  ) else (
  some (0 : Int32)
  )
  ) else (
  some (0 : Int32)
  )
def f_X6_takeNumber (o_t : Ob) (v1 : Int32) (v2 : Int32) : Option (Ob × Int32) :=
  nx (fun (j6 : Int32) => (
  nx (fun (_ : Unit) => (
  nx (fun (j15 : Int32) => (
  zb2 (f_X6_fail o_t j15) fun (o17 : Ob) (r18 : Int32) =>
  some (o17, (-1 : Int32))
  )) fun K16 =>
  if o_t 13 0 = (3 : Int32) then (
  K16 (2 : Int32)
  ) else (
  K16 (1 : Int32)
  )
  )) fun K13 =>
  if o_t 13 0 = (3 : Int32) then (
  if j6 = 0 then (
  K13 ()
  ) else (
  nx (o_t 16 0) fun x21 =>
  zb1 (f_X6_advance o_t) fun (o22 : Ob) =>
  some (o22, x21)
  )
  ) else (
  K13 ()
  )
  )) fun K7 =>
  nx (fun (_ : Unit) => (
  K7 (0 : Int32)
  )) fun K3 =>
  if o_t 16 0 < v1 then (
  K3 ()
  ) else (
  if v2 < o_t 16 0 then (
  K3 ()
  ) else (
  K7 (1 : Int32)
  )
  )
def f_X6_readRoom (o_t : Ob) : Option (Ob × Int32) :=
  if o_t 6 0 = 0 then (
  nx (si o_t 6 (1 : Int32)) fun o1 =>
  zb1 (f_X6_advance o1) fun (o2 : Ob) =>
  zb2 (f_X6_takeNumber o2 (1 : Int32) (20 : Int32)) fun (o4 : Ob) (r5 : Int32) =>
  nx (si o4 4 r5) fun o7 =>
  if o7 4 0 = (-1 : Int32) then (
  some (o7, (0 : Int32))
  ) else (
  some (o7, (1 : Int32))
  )
  ) else (
  zb2 (f_X6_fail o_t (3 : Int32)) fun (o9 : Ob) (r10 : Int32) =>
  gz r10 <|
  some (o9, r10)
  )
def f_X6_readRule (o_t : Ob) : Option (Ob × Int32) :=
  if o_t 7 0 = 0 then (
  nx (si o_t 7 (1 : Int32)) fun o1 =>
  zb1 (f_X6_advance o1) fun (o2 : Ob) =>
  zb1 (f_X6_says__3 o2) fun (r4 : Int32) =>
  nx (fun (j13 : Int32) => (
  nx (si o2 5 j13) fun o15 =>
  if o15 5 0 = (-1 : Int32) then (
  zb2 (f_X6_fail o15 (1 : Int32)) fun (o18 : Ob) (r19 : Int32) =>
  gz r19 <|
  some (o18, r19)
  ) else (
  zb1 (f_X6_advance o15) fun (o16 : Ob) =>
  some (o16, (1 : Int32))
  )
  )) fun K14 =>
  if r4 = 0 then (
  zb1 (f_X6_says__4 o2) fun (r23 : Int32) =>
  if r23 = 0 then (
  zb1 (f_X6_says__5 o2) fun (r25 : Int32) =>
  if r25 = 0 then (
  K14 (-1 : Int32)
  ) else (
  K14 (2 : Int32)
  )
  ) else (
  K14 (1 : Int32)
  )
  ) else (
  K14 (0 : Int32)
  )
  ) else (
  zb2 (f_X6_fail o_t (3 : Int32)) fun (o30 : Ob) (r31 : Int32) =>
  gz r31 <|
  some (o30, r31)
  )
def f_X6_isName (o_t : Ob) : Option (Int32) :=
  if o_t 13 0 = (2 : Int32) then (
  zb1 (f_X6_says__0 o_t) fun (r1 : Int32) =>
  if r1 = 0 then (
  zb1 (f_X6_says__1 o_t) fun (r3 : Int32) =>
  if r3 = 0 then (
  zb1 (f_X6_says__2 o_t) fun (r5 : Int32) =>
  if r5 = 0 then (
  zb1 (f_X6_says__6 o_t) fun (r7 : Int32) =>
  if r7 = 0 then (
  some (1 : Int32)
  ) else (
  some (0 : Int32)
  )
  ) else (
  some (0 : Int32)
  )
  ) else (
  some (0 : Int32)
  )
  ) else (
  some (0 : Int32)
  )
  ) else (
  some (0 : Int32)
  )
def f_X10_numberOf (o_t : Ob) (v1 : Int32) : Option (Int32) :=
  ze0 (zl1 (fun (k7 : Int32) => (
  if o_t 0 0 ≤ k7 then (
  some (.inr (.inl ()))
  ) else (
  gi k7 8 <|
  if o_t 4 (Int32.toNatClampNeg k7) = v1 then (
  some (.inr (.inr k7))
  ) else (
  nx (k7 + (1 : Int32)) fun x11 =>
  some (.inl x11)
  )
  )
  )) FU (0 : Int32)) (fun r => some r) <|
  some (-1 : Int32)
def f_X6_readItem (o_t : Ob) (o_p1 : Ob) : Option (Ob × Ob × Int32) :=
  nx (o_p1 0 0) fun x1 =>
  if x1 < (8 : Int32) then (
  zb1 (f_X6_advance o_t) fun (o2 : Ob) =>
  zb1 (f_X6_isName o2) fun (r4 : Int32) =>
  if r4 = 0 then (
  zb2 (f_X6_fail o2 (1 : Int32)) fun (o50 : Ob) (r51 : Int32) =>
  gz r51 <|
  some (o50, o_p1, r51)
  ) else (
  zb1 (f_X10_numberOf o_p1 (o2 16 0)) fun (r6 : Int32) =>
  if r6 = (-1 : Int32) then (
  gi x1 8 <|
  nx (sa o_p1 4 (upd (o_p1 4) (Int32.toNatClampNeg x1) (o2 16 0))) fun o9 =>
  zb1 (f_X6_advance o2) fun (o10 : Ob) =>
  zb2 (f_X6_takeNumber o10 (1 : Int32) (6 : Int32)) fun (o12 : Ob) (r13 : Int32) =>
  gi x1 8 <|
  nx (sa o9 1 (upd (o9 1) (Int32.toNatClampNeg x1) r13)) fun o16 =>
  nx (fun (j21 : Int32) (q22 : Ob) => (
  gi x1 8 <|
  nx (sa o16 2 (upd (o16 2) (Int32.toNatClampNeg x1) j21)) fun o25 =>
  nx (fun (j30 : Int32) (q31 : Ob) => (
  gi x1 8 <|
  nx (sa o25 3 (upd (o25 3) (Int32.toNatClampNeg x1) j30)) fun o34 =>
  nx (si o34 0 ((o34 0 0) + (1 : Int32))) fun o35 =>
  if q31 2 0 = 0 then (
  some (q31, o35, (1 : Int32))
  ) else (
  some (q31, o35, (0 : Int32))
  )
  )) fun K32 =>
  if q22 2 0 = 0 then (
  zb2 (f_X6_takeNumber q22 (1 : Int32) (20 : Int32)) fun (o37 : Ob) (r38 : Int32) =>
  K32 r38 o37
  ) else (
  K32 (-1 : Int32) q22
  )
  )) fun K23 =>
  if o12 2 0 = 0 then (
  zb2 (f_X6_takeNumber o12 (1 : Int32) (60 : Int32)) fun (o41 : Ob) (r42 : Int32) =>
  K23 r42 o41
  ) else (
  K23 (-1 : Int32) o12
  )
  ) else (
  zb2 (f_X6_fail o2 (3 : Int32)) fun (o45 : Ob) (r46 : Int32) =>
  gz r46 <|
  some (o45, o_p1, r46)
  )
  )
  ) else (
  zb2 (f_X6_fail o_t (4 : Int32)) fun (o55 : Ob) (r56 : Int32) =>
  gz r56 <|
  some (o55, o_p1, r56)
  )
def f_X6_readLine (o_t : Ob) (o_p1 : Ob) : Option (Ob × Ob × Int32) :=
  zb1 (f_X6_says__0 o_t) fun (r1 : Int32) =>
  if r1 = 0 then (
  zb1 (f_X6_says__1 o_t) fun (r3 : Int32) =>
  if r3 = 0 then (
  zb1 (f_X6_says__2 o_t) fun (r5 : Int32) =>
  if r5 = 0 then (
  zb2 (f_X6_fail o_t (1 : Int32)) fun (o7 : Ob) (r8 : Int32) =>
  gz r8 <|
  some (o7, o_p1, r8)
  ) else (
  zb3 (f_X6_readItem o_t o_p1) fun (o11 : Ob) (o12 : Ob) (r13 : Int32) =>
  gz r13 <|
  some (o11, o12, r13)
  )
  ) else (
  zb2 (f_X6_readRule o_t) fun (o17 : Ob) (r18 : Int32) =>
  gz r18 <|
  some (o17, o_p1, r18)
  )
  ) else (
  zb2 (f_X6_readRoom o_t) fun (o22 : Ob) (r23 : Int32) =>
  gz r23 <|
  some (o22, o_p1, r23)
  )
def f_X6_take (o_t : Ob) (v1 : Int32) : Option (Ob × Int32) :=
  if o_t 13 0 = v1 then (
  zb1 (f_X6_advance o_t) fun (o1 : Ob) =>
  some (o1, (1 : Int32))
  ) else (
  zb2 (f_X6_fail o_t (1 : Int32)) fun (o3 : Ob) (r4 : Int32) =>
  gz r4 <|
  some (o3, r4)
  )
def f_X6_readStore (o_t : Ob) (o_p1 : Ob) : Option (Ob × Ob × Int32) :=
  nx (si o_p1 0 (0 : Int32)) fun o1 =>
  nx (si o_t 4 (6 : Int32)) fun o2 =>
  nx (si o2 5 (1 : Int32)) fun o3 =>
  nx (si o3 6 (0 : Int32)) fun o4 =>
  nx (si o4 7 (0 : Int32)) fun o5 =>
  zb2 (f_X6_start o5) fun (o6 : Ob) (r7 : Int32) =>
  if r7 = 0 then (
  some (o6, o1, (0 : Int32))
  ) else (
  ze2 (zl3 (fun (o24 : Ob) (o25 : Ob) (k26 : Int32) => (
  if (400 : Int32) ≤ k26 then (
  some (.inr (.inl (o24, o25)))
  ) else (
  if o24 13 0 = (1 : Int32) then (
  some (.inr (.inl (o24, o25)))
  ) else (
  zb3 (f_X6_readLine o24 o25) fun (o31 : Ob) (o32 : Ob) (r33 : Int32) =>
  if r33 = 0 then (
  some (.inr (.inr (o31, o32, (0 : Int32))))
  ) else (
  zb2 (f_X6_take o31 (59 : Int32)) fun (o35 : Ob) (r36 : Int32) =>
  if r36 = 0 then (
  some (.inr (.inr (o35, o32, (0 : Int32))))
  ) else (
  nx (k26 + (1 : Int32)) fun x38 =>
  some (.inl (o35, o32, x38))
  )
  )
  )
  )
  )) FU o6 o1 (0 : Int32)) (fun r => some r) <| fun (o27 : Ob) (o28 : Ob) =>
  some (o27, o28, (1 : Int32))
  )
def f_X6_readAgain (o_t : Ob) : Option (Ob × Int32) :=
  if o_t 10 0 < (2 : Int32) then (
  zb1 (f_X6_advance o_t) fun (o1 : Ob) =>
  zb2 (f_X6_takeNumber o1 (1 : Int32) (9 : Int32)) fun (o3 : Ob) (r4 : Int32) =>
  if r4 = (-1 : Int32) then (
  some (o3, (0 : Int32))
  ) else (
  zb2 (f_X6_take o3 (91 : Int32)) fun (o6 : Ob) (r7 : Int32) =>
  if r7 = 0 then (
  some (o6, (0 : Int32))
  ) else (
  gi (o6 10 0) 2 <|
  nx (sa o6 11 (upd (o6 11) (Int32.toNatClampNeg (o6 10 0)) r4)) fun o10 =>
  gi (o10 10 0) 2 <|
  nx (sa o10 12 (upd (o10 12) (Int32.toNatClampNeg (o10 10 0)) (o10 9 0))) fun o12 =>
  nx (si o12 10 ((o12 10 0) + (1 : Int32))) fun o13 =>
  some (o13, (1 : Int32))
  )
  )
  ) else (
  zb2 (f_X6_fail o_t (5 : Int32)) fun (o16 : Ob) (r17 : Int32) =>
  gz r17 <|
  some (o16, r17)
  )
def f_X6_addStep (o_t : Ob) (v1 : Int32) : Option (Ob) :=
  if (40 : Int32) ≤ o_t 9 0 then (
  some o_t
  ) else (
  nx (si o_t 9 ((o_t 9 0) + (1 : Int32))) fun o1 =>
  gi (o_t 9 0) 40 <|
  nx (sa o1 8 (upd (o1 8) (Int32.toNatClampNeg (o_t 9 0)) v1)) fun o3 =>
  some o3
  )
def f_X6_repeat (o_t : Ob) : Option (Ob) :=
  nx (si o_t 10 ((o_t 10 0) - (1 : Int32))) fun o1 =>
  nx (o1 9 0) fun x2 =>
  zb1 (zl2 (fun (o28 : Ob) (k29 : Int32) => (
  gi (o28 10 0) 2 <|
  if o28 11 (Int32.toNatClampNeg (o28 10 0)) ≤ k29 then (
  some (.inr o28)
  ) else (
  gi (o28 10 0) 2 <|
  nx (o28 12 (Int32.toNatClampNeg (o28 10 0))) fun x35 =>
  zb1 (zl2 (fun (o43 : Ob) (k44 : Int32) => (
  if x2 ≤ k44 then (
  some (.inr o43)
  ) else (
  gi k44 40 <|
  zb1 (f_X6_addStep o43 (o43 8 (Int32.toNatClampNeg k44))) fun (o50 : Ob) =>
  nx (k44 + (1 : Int32)) fun x52 =>
  some (.inl (o50, x52))
  )
  )) FU o28 x35) <| fun (o45 : Ob) =>
  nx (k29 + (1 : Int32)) fun x46 =>
  some (.inl (o45, x46))
  )
  )) FU o1 (1 : Int32)) <| fun (o30 : Ob) =>
  some o30
def f_X6_readStep (o_t : Ob) (o_p1 : Ob) : Option (Ob × Int32) :=
  zb1 (f_X6_says__6 o_t) fun (r1 : Int32) =>
  if r1 = 0 then (
  nx (fun (q30 : Ob) => (
  zb1 (f_X6_advance q30) fun (o32 : Ob) =>
  zb2 (f_X6_take o32 (59 : Int32)) fun (o34 : Ob) (r35 : Int32) =>
  gz r35 <|
  some (o34, r35)
  )) fun K31 =>
  nx (fun (_ : Unit) => (
  zb1 (f_X6_isName o_t) fun (r38 : Int32) =>
  if r38 = 0 then (
  zb2 (f_X6_fail o_t (1 : Int32)) fun (o51 : Ob) (r52 : Int32) =>
  gz r52 <|
  some (o51, r52)
  ) else (
  zb1 (f_X10_numberOf o_p1 (o_t 16 0)) fun (r40 : Int32) =>
  if r40 = (-1 : Int32) then (
  zb2 (f_X6_fail o_t (3 : Int32)) fun (o46 : Ob) (r47 : Int32) =>
  gz r47 <|
  some (o46, r47)
  ) else (
  zb1 (f_X10_numberOf o_p1 (o_t 16 0)) fun (r42 : Int32) =>
  zb1 (f_X6_addStep o_t r42) fun (o44 : Ob) =>
  K31 o44
  )
  )
  )) fun K7 =>
  if o_t 13 0 = (93 : Int32) then (
  if o_t 10 0 ≤ 0 then (
  K7 ()
  ) else (
  zb1 (f_X6_repeat o_t) fun (o56 : Ob) =>
  K31 o56
  )
  ) else (
  K7 ()
  )
  ) else (
  zb2 (f_X6_readAgain o_t) fun (o60 : Ob) (r61 : Int32) =>
  gz r61 <|
  some (o60, r61)
  )
def f_X6_readSteps (o_t : Ob) (o_p1 : Ob) : Option (Ob × Int32) :=
  nx (si o_t 9 (0 : Int32)) fun o1 =>
  nx (si o1 10 (0 : Int32)) fun o2 =>
  zb2 (f_X6_start o2) fun (o3 : Ob) (r4 : Int32) =>
  if r4 = 0 then (
  some (o3, (0 : Int32))
  ) else (
  ze1 (zl2 (fun (o20 : Ob) (k21 : Int32) => (
  if (400 : Int32) ≤ k21 then (
  some (.inr (.inl o20))
  ) else (
  nx (fun (_ : Unit) => (
  zb2 (f_X6_readStep o20 o_p1) fun (o28 : Ob) (r29 : Int32) =>
  if r29 = 0 then (
  some (.inr (.inr (o28, (0 : Int32))))
  ) else (
  nx (k21 + (1 : Int32)) fun x31 =>
  some (.inl (o28, x31))
  )
  )) fun K27 =>
  if o20 13 0 = (1 : Int32) then (
  if o20 10 0 ≤ 0 then (
  some (.inr (.inl o20))
  ) else (
  K27 ()
  )
  ) else (
  K27 ()
  )
  )
  )) FU o3 (0 : Int32)) (fun r => some r) <| fun (o22 : Ob) =>
  some (o22, (1 : Int32))
  )
def f_X7_canGo (o_t : Ob) (v1 : Int32) (v2 : Int32) : Option (Int32) :=
  if v1 &&& (v2 ^^^ (-1 : Int32)) = 0 then (
  gi v1 256 <|
  if o_t 5 0 < o_t 2 (Int32.toNatClampNeg v1) then (
  some (0 : Int32)
  ) else (
  gi (((o_t 4 0) ^^^ v2) ^^^ v1) 256 <|
  if o_t 6 0 < o_t 2 (Int32.toNatClampNeg (((o_t 4 0) ^^^ v2) ^^^ v1)) then (
  some (0 : Int32)
  ) else (
  some (1 : Int32)
  )
  )
  ) else (
  some (0 : Int32)
  )
def f_X7_needOf (o_t : Ob) (v1 : Int32) : Option (Int32) :=
  zb1 (f_J6_bitCount_0f7a4 v1) fun (r1 : Int32) =>
  zb1 (zl2 (fun (k22 : Int32) (k23 : Int32) => (
  if k23 ≤ 0 then (
  some (.inr k22)
  ) else (
  zb1 (f_X7_canGo o_t k23 v1) fun (r27 : Int32) =>
  nx (fun (j34 : Int32) => (
  nx ((k23 - (1 : Int32)) &&& v1) fun x36 =>
  some (.inl (j34, x36))
  )) fun K35 =>
  if r27 = 0 then (
  K35 k22
  ) else (
  gi (v1 ^^^ k23) 256 <|
  if k22 ≤ (o_t 3 (Int32.toNatClampNeg (v1 ^^^ k23))) + (1 : Int32) then (
  K35 k22
  ) else (
  gi (v1 ^^^ k23) 256 <|
  nx ((o_t 3 (Int32.toNatClampNeg (v1 ^^^ k23))) + (1 : Int32)) fun x39 =>
  K35 x39
  )
  )
  )
  )) FU r1 v1) <| fun (k24 : Int32) =>
  some k24
def f_X7_countNeeds (o_t : Ob) (v1 : Int32) : Option (Ob) :=
  gi (0 : Int32) 256 <|
  nx (sa o_t 3 (upd (o_t 3) (Int32.toNatClampNeg (0 : Int32)) (0 : Int32))) fun o2 =>
  zb1 (zl2 (fun (o13 : Ob) (k14 : Int32) => (
  if v1 < k14 then (
  some (.inr o13)
  ) else (
  if k14 &&& (v1 ^^^ (-1 : Int32)) = 0 then (
  zb1 (f_X7_needOf o13 k14) fun (r19 : Int32) =>
  gi k14 256 <|
  nx (sa o13 3 (upd (o13 3) (Int32.toNatClampNeg k14) r19)) fun o22 =>
  nx (k14 + (1 : Int32)) fun x23 =>
  some (.inl (o22, x23))
  ) else (
  nx (k14 + (1 : Int32)) fun x18 =>
  some (.inl (o13, x18))
  )
  )
  )) FU o2 (1 : Int32)) <| fun (o15 : Ob) =>
  some o15
def f_X7_firstGoing (o_t : Ob) (v1 : Int32) : Option (Int32) :=
  ze0 (zl1 (fun (k12 : Int32) => (
  if v1 < k12 then (
  some (.inr (.inl ()))
  ) else (
  zb1 (f_X7_canGo o_t k12 v1) fun (r15 : Int32) =>
  if r15 = 0 then (
  nx (k12 + (1 : Int32)) fun x17 =>
  some (.inl x17)
  ) else (
  gi (v1 ^^^ k12) 256 <|
  gi v1 256 <|
  if o_t 3 (Int32.toNatClampNeg (v1 ^^^ k12)) = (o_t 3 (Int32.toNatClampNeg v1)) - (1 : Int32) then (
  some (.inr (.inr k12))
  ) else (
  nx (k12 + (1 : Int32)) fun x20 =>
  some (.inl x20)
  )
  )
  )
  )) FU (1 : Int32)) (fun r => some r) <|
  some v1
def f_X7_find (o_t : Ob) (o_p1 : Ob) (o_p2 : Ob) (v3 : Int32) (v4 : Int32) : Option (Ob) :=
  nx (si o_t 4 v3) fun o1 =>
  nx (si o1 5 v4) fun o2 =>
  nx (si o2 6 (o_p2 0 0)) fun o3 =>
  zb1 (f_X10_sumSets__size o_p1 256 (o3 2)) fun (o4 : Fn) =>
  nx (sa o3 2 o4) fun o6 =>
  nx ((o_p2 2 0) ^^^ (o6 4 0)) fun x7 =>
  zb1 (f_X7_countNeeds o6 x7) fun (o8 : Ob) =>
  gi x7 256 <|
  nx (si o8 0 (o8 3 (Int32.toNatClampNeg x7))) fun o11 =>
  zb1 (zl3 (fun (o25 : Ob) (k26 : Int32) (k27 : Int32) => (
  if o25 0 0 ≤ k27 then (
  some (.inr o25)
  ) else (
  zb1 (f_X7_firstGoing o25 k26) fun (r31 : Int32) =>
  gi k27 8 <|
  nx (sa o25 1 (upd (o25 1) (Int32.toNatClampNeg k27) r31)) fun o34 =>
  gi k27 8 <|
  nx (k26 ^^^ (o34 1 (Int32.toNatClampNeg k27))) fun x36 =>
  nx (k27 + (1 : Int32)) fun x37 =>
  some (.inl (o34, x36, x37))
  )
  )) FU o11 x7 (0 : Int32)) <| fun (o28 : Ob) =>
  some o28
def f_X8_begin (o_t : Ob) (v1 : Int32) (v2 : Int32) : Option (Ob) :=
  nx (si o_t 0 v1) fun o1 =>
  nx (si o1 1 v2) fun o2 =>
  nx (si o2 2 (0 : Int32)) fun o3 =>
  nx (si o3 3 (0 : Int32)) fun o4 =>
  zb1 (zl2 (fun (o15 : Ob) (k16 : Int32) => (
  if (8 : Int32) ≤ k16 then (
  some (.inr o15)
  ) else (
  gi k16 8 <|
  nx (sa o15 4 (upd (o15 4) (Int32.toNatClampNeg k16) (0 : Int32))) fun o21 =>
  gi k16 8 <|
  nx (sa o21 5 (upd (o21 5) (Int32.toNatClampNeg k16) (0 : Int32))) fun o23 =>
  gi k16 8 <|
  nx (sa o23 6 (upd (o23 6) (Int32.toNatClampNeg k16) (UInt32.toInt32 FP.fconst0))) fun o25 =>
  nx (k16 + (1 : Int32)) fun x26 =>
  some (.inl (o25, x26))
  )
  )) FU o4 (0 : Int32)) <| fun (o17 : Ob) =>
  some o17
def f_X8_holds (o_t : Ob) (v1 : Int32) : Option (Int32) :=
  if ((o_t 2 0) >>> (v1 &&& 31)) &&& (1 : Int32) = (1 : Int32) then (
  some (1 : Int32)
  ) else (
  some (0 : Int32)
  )
def f_X8_free (o_t : Ob) : Option (Int32) :=
  some ((o_t 0 0) - (o_t 3 0))
def f_X8_warm (o_t : Ob) (v1 : Int32) : Option (Ob) :=
  zb1 (zl2 (fun (o9 : Ob) (k10 : Int32) => (
  if (8 : Int32) ≤ k10 then (
  some (.inr o9)
  ) else (
  gi k10 8 <|
  gq (FP.fmul ((o9 6 (Int32.toNatClampNeg k10)).toUInt32) (1063256064 : UInt32)) <|
  gi k10 8 <|
  nx (sa o9 6 (upd (o9 6) (Int32.toNatClampNeg k10) (UInt32.toInt32 (FP.fmul ((o9 6 (Int32.toNatClampNeg k10)).toUInt32) (1063256064 : UInt32))))) fun o21 =>
  nx (k10 + (1 : Int32)) fun x22 =>
  some (.inl (o21, x22))
  )
  )) FU o_t (0 : Int32)) <| fun (o11 : Ob) =>
  gi v1 8 <|
  gq (FP.fadd ((o11 6 (Int32.toNatClampNeg v1)).toUInt32) FP.fconst1) <|
  gi v1 8 <|
  nx (sa o11 6 (upd (o11 6) (Int32.toNatClampNeg v1) (UInt32.toInt32 (FP.fadd ((o11 6 (Int32.toNatClampNeg v1)).toUInt32) FP.fconst1)))) fun o15 =>
  some o15
def f_X10_fullDensity (o_t : Ob) (v1 : Int32) : Option (Int32) :=
  gi v1 8 <|
  if (1 : Int32) ≤ o_t 1 (Int32.toNatClampNeg v1) then (
  gi v1 8 <|
  gi v1 8 <|
  gn (o_t 1 (Int32.toNatClampNeg v1)) <|
  some (((60 : Int32) * (o_t 2 (Int32.toNatClampNeg v1))) / (o_t 1 (Int32.toNatClampNeg v1)))
  ) else (
  some (0 : Int32)
  )
def f_X8_isRipe (o_t : Ob) (o_p1 : Ob) (v2 : Int32) : Option (Ob × Int32) :=
  if o_t 1 0 = 0 then (
  some (o_t, (1 : Int32))
  ) else (
  if o_t 1 0 = (2 : Int32) then (
  gi v2 8 <|
  gi v2 8 <|
  gq (FP.fmul ((o_t 6 (Int32.toNatClampNeg v2)).toUInt32) (FP.i2f (o_p1 3 (Int32.toNatClampNeg v2)))) <|
  gi v2 8 <|
  if Op.cmpValue (FP.fcmp (FP.fmul ((o_t 6 (Int32.toNatClampNeg v2)).toUInt32) (FP.i2f (o_p1 3 (Int32.toNatClampNeg v2)))) (FP.i2f (o_p1 2 (Int32.toNatClampNeg v2)))) .l < 0 then (
  some (o_t, (0 : Int32))
  ) else (
  some (o_t, (1 : Int32))
  )
  ) else (
  gi v2 8 <|
  gi v2 8 <|
  gi v2 8 <|
  nx (sa o_t 5 (upd (o_t 5) (Int32.toNatClampNeg v2) ((o_t 5 (Int32.toNatClampNeg v2)) + (o_p1 3 (Int32.toNatClampNeg v2))))) fun o4 =>
  gi v2 8 <|
  gi v2 8 <|
  if o4 5 (Int32.toNatClampNeg v2) < o_p1 2 (Int32.toNatClampNeg v2) then (
  some (o4, (0 : Int32))
  ) else (
  some (o4, (1 : Int32))
  )
  )
  )
def f_X8_poorestOnFast (o_t : Ob) (o_p1 : Ob) : Option (Int32) :=
  zb1 (zl2 (fun (k22 : Int32) (k23 : Int32) => (
  if o_p1 0 0 ≤ k23 then (
  some (.inr k22)
  ) else (
  zb1 (f_X8_holds o_t k23) fun (r27 : Int32) =>
  if r27 = 0 then (
  nx (k23 + (1 : Int32)) fun x29 =>
  some (.inl (k22, x29))
  ) else (
  nx (fun (_ : Unit) => (
  nx (k23 + (1 : Int32)) fun x36 =>
  some (.inl (k23, x36))
  )) fun K35 =>
  if k22 = (-1 : Int32) then (
  K35 ()
  ) else (
  gi k23 8 <|
  gi k22 8 <|
  if o_t 4 (Int32.toNatClampNeg k22) ≤ o_t 4 (Int32.toNatClampNeg k23) then (
  nx (k23 + (1 : Int32)) fun x39 =>
  some (.inl (k22, x39))
  ) else (
  K35 ()
  )
  )
  )
  )
  )) FU (-1 : Int32) (0 : Int32)) <| fun (k24 : Int32) =>
  some k24
def f_X8_lower (o_t : Ob) (o_p1 : Ob) (o_p3 : Ob) (v2 : Int32) : Option (Ob × Ob) :=
  nx (si o_t 2 ((o_t 2 0) &&& (((1 : Int32) <<< (v2 &&& 31)) ^^^ (-1 : Int32)))) fun o1 =>
  gi v2 8 <|
  nx (si o1 3 ((o1 3 0) - (o_p1 1 (Int32.toNatClampNeg v2)))) fun o3 =>
  gi v2 8 <|
  nx (sa o3 4 (upd (o3 4) (Int32.toNatClampNeg v2) (0 : Int32))) fun o5 =>
  gi v2 8 <|
  zb1 (f_X1_add o_p3 (2 : Int32) v2 (o_p1 1 (Int32.toNatClampNeg v2))) fun (o7 : Ob) =>
  some (o5, o7)
def f_X8_sinkAll (o_t : Ob) (o_p1 : Ob) (v2 : Int32) : Option (Ob) :=
  zb1 (zl2 (fun (o13 : Ob) (k14 : Int32) => (
  if o_p1 0 0 ≤ k14 then (
  some (.inr o13)
  ) else (
  zb1 (f_X8_holds o13 k14) fun (r18 : Int32) =>
  if r18 = 0 then (
  nx (k14 + (1 : Int32)) fun x20 =>
  some (.inl (o13, x20))
  ) else (
  gi k14 8 <|
  gi k14 8 <|
  nx (sa o13 4 (upd (o13 4) (Int32.toNatClampNeg k14) ((o13 4 (Int32.toNatClampNeg k14)) - v2))) fun o23 =>
  nx (k14 + (1 : Int32)) fun x24 =>
  some (.inl (o23, x24))
  )
  )
  )) FU o_t (0 : Int32)) <| fun (o15 : Ob) =>
  some o15
def f_X8_makeWay (o_t : Ob) (o_p1 : Ob) (o_p3 : Ob) (v2 : Int32) : Option (Ob × Ob) :=
  ze2 (zl3 (fun (o22 : Ob) (o23 : Ob) (k24 : Int32) => (
  if (16 : Int32) ≤ k24 then (
  some (.inr (.inl (o22, o23)))
  ) else (
  zb1 (f_X8_free o22) fun (r29 : Int32) =>
  if v2 ≤ r29 then (
  some (.inr (.inl (o22, o23)))
  ) else (
  zb1 (f_X8_poorestOnFast o22 o_p1) fun (r31 : Int32) =>
  if r31 = (-1 : Int32) then (
  some (.inr (.inr (o22, o23)))
  ) else (
  gi r31 8 <|
  if o22 4 (Int32.toNatClampNeg r31) = 0 then (
  zb2 (f_X8_lower o22 o_p1 o23 r31) fun (o38 : Ob) (o39 : Ob) =>
  nx (k24 + (1 : Int32)) fun x41 =>
  some (.inl (o38, o39, x41))
  ) else (
  gi r31 8 <|
  zb1 (f_X8_sinkAll o22 o_p1 (o22 4 (Int32.toNatClampNeg r31))) fun (o35 : Ob) =>
  nx (k24 + (1 : Int32)) fun x37 =>
  some (.inl (o35, o23, x37))
  )
  )
  )
  )
  )) FU o_t o_p3 (0 : Int32)) (fun r => some r) <| fun (o25 : Ob) (o26 : Ob) =>
  some (o25, o26)
def f_X8_raise (o_t : Ob) (o_p1 : Ob) (o_p3 : Ob) (v2 : Int32) : Option (Ob × Ob) :=
  nx (si o_t 2 ((o_t 2 0) ||| ((1 : Int32) <<< (v2 &&& 31)))) fun o1 =>
  gi v2 8 <|
  nx (si o1 3 ((o1 3 0) + (o_p1 1 (Int32.toNatClampNeg v2)))) fun o3 =>
  zb1 (f_X10_fullDensity o_p1 v2) fun (r4 : Int32) =>
  gi v2 8 <|
  nx (sa o3 4 (upd (o3 4) (Int32.toNatClampNeg v2) r4)) fun o7 =>
  gi v2 8 <|
  nx (sa o7 5 (upd (o7 5) (Int32.toNatClampNeg v2) (0 : Int32))) fun o9 =>
  gi v2 8 <|
  zb1 (f_X1_add o_p3 (3 : Int32) v2 (o_p1 2 (Int32.toNatClampNeg v2))) fun (o11 : Ob) =>
  some (o9, o11)
def f_X8_serve (o_t : Ob) (o_p1 : Ob) (o_p3 : Ob) (v2 : Int32) : Option (Ob × Ob × Int32) :=
  zb1 (f_X8_warm o_t v2) fun (o1 : Ob) =>
  zb1 (f_X8_holds o1 v2) fun (r3 : Int32) =>
  if r3 = 0 then (
  gi v2 8 <|
  nx (fun (j7 : Int32) => (
  nx (fun (j18 : Int32) (q19 : Ob) => (
  if j7 = 0 then (
  zb2 (f_X8_isRipe o1 o_p1 v2) fun (o21 : Ob) (r22 : Int32) =>
  if r22 = 0 then (
  some (o21, q19, j18)
  ) else (
  gi v2 8 <|
  zb2 (f_X8_makeWay o21 o_p1 q19 (o_p1 1 (Int32.toNatClampNeg v2))) fun (o25 : Ob) (o26 : Ob) =>
  zb2 (f_X8_raise o25 o_p1 o26 v2) fun (o28 : Ob) (o29 : Ob) =>
  gi v2 8 <|
  nx (j18 + (o_p1 2 (Int32.toNatClampNeg v2))) fun x32 =>
  some (o28, o29, x32)
  )
  ) else (
  some (o1, q19, j18)
  )
  )) fun K20 =>
  nx (fun (_ : Unit) => (
  gi v2 8 <|
  nx (o_p1 3 (Int32.toNatClampNeg v2)) fun x36 =>
  zb1 (f_X1_add o_p3 (1 : Int32) v2 x36) fun (o37 : Ob) =>
  K20 x36 o37
  )) fun K11 =>
  if j7 = 0 then (
  if o1 1 0 = 0 then (
  K20 (0 : Int32) o_p3
  ) else (
  K11 ()
  )
  ) else (
  K11 ()
  )
  )) fun K8 =>
  if o_p1 1 (Int32.toNatClampNeg v2) ≤ o1 0 0 then (
  K8 (0 : Int32)
  ) else (
  K8 (1 : Int32)
  )
  ) else (
  zb1 (f_X10_fullDensity o_p1 v2) fun (r42 : Int32) =>
  gi v2 8 <|
  nx (sa o1 4 (upd (o1 4) (Int32.toNatClampNeg v2) r42)) fun o45 =>
  zb1 (f_X1_add o_p3 (0 : Int32) v2 (0 : Int32)) fun (o46 : Ob) =>
  some (o45, o46, (0 : Int32))
  )
def f_X9_begin (o_t : Ob) (o_t_wares : Ob) (o_t_shelf : Ob) (o_t_log : Ob) (o_t_b0 : Ob) (o_t_b1 : Ob) (o_t_b2 : Ob) (o_p1 : Ob) (v2 : Int32) (v3 : Int32) : Option (Ob × Ob × Ob × Ob × Ob × Ob × Ob) :=
  zb1 (f_X10_copyFrom o_t_wares o_p1) fun (o1 : Ob) =>
  zb1 (f_X8_begin o_t_shelf v2 v3) fun (o3 : Ob) =>
  nx (si o_t_log 0 (0 : Int32)) fun o5 =>
  nx (si o_t 4 (0 : Int32)) fun o6 =>
  nx (si o6 5 (0 : Int32)) fun o7 =>
  nx (si o7 6 (0 : Int32)) fun o8 =>
  zb3 (zl4 (fun (o30 : Ob) (o31 : Ob) (o32 : Ob) (k33 : Int32) => (
  if (3 : Int32) ≤ k33 then (
  some (.inr (o30, o31, o32))
  ) else (
  gi k33 3 <|
  if k33 = (0 : Int32) then (
  zb1 (f_X0_close o30) fun (o40 : Ob) =>
  nx (k33 + (1 : Int32)) fun x42 =>
  some (.inl (o40, o31, o32, x42))
  ) else if k33 = (1 : Int32) then (
  zb1 (f_X0_close o31) fun (o43 : Ob) =>
  nx (k33 + (1 : Int32)) fun x45 =>
  some (.inl (o30, o43, o32, x45))
  ) else (
  zb1 (f_X0_close o32) fun (o46 : Ob) =>
  nx (k33 + (1 : Int32)) fun x48 =>
  some (.inl (o30, o31, o46, x48))
  )
  )
  )) FU o_t_b0 o_t_b1 o_t_b2 (0 : Int32)) <| fun (o34 : Ob) (o35 : Ob) (o36 : Ob) =>
  some (o8, o1, o3, o5, o34, o35, o36)
def f_X9_post (o_t : Ob) (o_t_b0 : Ob) (o_t_b1 : Ob) (o_t_b2 : Ob) (o_p1 : Ob) (o_p2 : Ob) : Option (Ob × Ob × Ob × Ob × Ob) :=
  zb5 (zl6 (fun (o94 : Ob) (o95 : Ob) (o96 : Ob) (o97 : Ob) (o98 : Ob) (k99 : Int32) => (
  if o_p1 0 0 ≤ k99 then (
  some (.inr (o94, o95, o96, o97, o98))
  ) else (
  gi k99 9 <|
  nx (o_p1 1 (Int32.toNatClampNeg k99)) fun x108 =>
  nx (fun (j110 : Int32) => (
  nx (si o94 5 ((o94 5 0) + j110)) fun o112 =>
  nx (fun (j114 : Int32) => (
  nx (si o112 6 ((o112 6 0) + j114)) fun o116 =>
  nx (fun (q124 : Ob) => (
  zb3 (zl4 (fun (o154 : Ob) (o155 : Ob) (o156 : Ob) (k157 : Int32) => (
  if (3 : Int32) ≤ k157 then (
  some (.inr (o154, o155, o156))
  ) else (
  gi k157 3 <|
  if k157 = (0 : Int32) then (
  gi k99 9 <|
  gi k99 9 <|
  zb1 (f_X0_write o154 x108 (o_p1 2 (Int32.toNatClampNeg k99)) (o_p1 3 (Int32.toNatClampNeg k99))) fun (o167 : Ob) =>
  nx (k157 + (1 : Int32)) fun x169 =>
  some (.inl (o167, o155, o156, x169))
  ) else if k157 = (1 : Int32) then (
  gi k99 9 <|
  gi k99 9 <|
  zb1 (f_X0_write o155 x108 (o_p1 2 (Int32.toNatClampNeg k99)) (o_p1 3 (Int32.toNatClampNeg k99))) fun (o172 : Ob) =>
  nx (k157 + (1 : Int32)) fun x174 =>
  some (.inl (o154, o172, o156, x174))
  ) else (
  gi k99 9 <|
  gi k99 9 <|
  zb1 (f_X0_write o156 x108 (o_p1 2 (Int32.toNatClampNeg k99)) (o_p1 3 (Int32.toNatClampNeg k99))) fun (o177 : Ob) =>
  nx (k157 + (1 : Int32)) fun x179 =>
  some (.inl (o154, o155, o177, x179))
  )
  )
  )) FU o95 o96 o97 (0 : Int32)) <| fun (o158 : Ob) (o159 : Ob) (o160 : Ob) =>
  nx (k99 + (1 : Int32)) fun x161 =>
  some (.inl (o116, o158, o159, o160, q124, x161))
  )) fun K125 =>
  nx (fun (_ : Unit) => (
  zb1 (f_X2_pass o98) fun (o183 : Ob) =>
  K125 o183
  )) fun K119 =>
  if x108 = (2 : Int32) then (
  K119 ()
  ) else (
  if x108 = (3 : Int32) then (
  K119 ()
  ) else (
  K125 o98
  )
  )
  )) fun K115 =>
  if x108 = (3 : Int32) then (
  K115 (1 : Int32)
  ) else (
  K115 (0 : Int32)
  )
  )) fun K111 =>
  if x108 = (2 : Int32) then (
  K111 (1 : Int32)
  ) else (
  K111 (0 : Int32)
  )
  )
  )) FU o_t o_t_b0 o_t_b1 o_t_b2 o_p2 (0 : Int32)) <| fun (o100 : Ob) (o101 : Ob) (o102 : Ob) (o103 : Ob) (o104 : Ob) =>
  some (o100, o101, o102, o103, o104)
def f_X9_ask (o_t : Ob) (o_t_wares : Ob) (o_t_shelf : Ob) (o_t_log : Ob) (o_t_b0 : Ob) (o_t_b1 : Ob) (o_t_b2 : Ob) (o_p2 : Ob) (o_p3 : Ob) (v1 : Int32) : Option (Ob × Ob × Ob × Ob × Ob × Ob × Ob × Ob × Int32) :=
  nx (si o_p2 0 (0 : Int32)) fun o1 =>
  zb3 (f_X8_serve o_t_shelf o_t_wares o1 v1) fun (o2 : Ob) (o3 : Ob) (r4 : Int32) =>
  nx (si o_t 4 ((o_t 4 0) + r4)) fun o6 =>
  zb1 (f_X4_add o_t_log o2 v1 r4) fun (o7 : Ob) =>
  zb5 (f_X9_post o6 o_t_b0 o_t_b1 o_t_b2 o3 o_p3) fun (o9 : Ob) (o10 : Ob) (o11 : Ob) (o12 : Ob) (o13 : Ob) =>
  some (o9, o2, o7, o10, o11, o12, o3, o13, r4)
def f_X9_move (o_t : Ob) (o_t_wares : Ob) (o_t_shelf : Ob) (o_t_b0 : Ob) (o_t_b1 : Ob) (o_t_b2 : Ob) (o_p2 : Ob) (o_p3 : Ob) (v1 : Int32) : Option (Ob × Ob × Ob × Ob × Ob × Ob × Ob) :=
  nx (si o_p2 0 (0 : Int32)) fun o1 =>
  zb1 (f_X8_holds o_t_shelf v1) fun (r2 : Int32) =>
  nx (fun (q13 : Ob) (q14 : Ob) (q15 : Ob) => (
  zb5 (f_X9_post q13 o_t_b0 o_t_b1 o_t_b2 q15 o_p3) fun (o17 : Ob) (o18 : Ob) (o19 : Ob) (o20 : Ob) (o21 : Ob) =>
  some (o17, q14, o18, o19, o20, q15, o21)
  )) fun K16 =>
  if r2 = 0 then (
  zb2 (f_X8_raise o_t_shelf o_t_wares o1 v1) fun (o23 : Ob) (o24 : Ob) =>
  gi v1 8 <|
  nx (si o_t 4 ((o_t 4 0) + (o_t_wares 2 (Int32.toNatClampNeg v1)))) fun o27 =>
  K16 o27 o23 o24
  ) else (
  zb2 (f_X8_lower o_t_shelf o_t_wares o1 v1) fun (o28 : Ob) (o29 : Ob) =>
  K16 o_t o28 o29
  )
def f_X10_has (o_t : Ob) (v1 : Int32) : Option (Int32) :=
  if v1 < 0 then (
  some (0 : Int32)
  ) else (
  if o_t 0 0 ≤ v1 then (
  some (0 : Int32)
  ) else (
  some (1 : Int32)
  )
  )
def f_X10_firstLetter (o_t : Ob) (v1 : Int32) : Option (Int32) :=
  gi v1 8 <|
  some ((((o_t 4 (Int32.toNatClampNeg v1)) &&& (31 : Int32)) + (97 : Int32)) - (1 : Int32))
def f_X11_feed (o_t_reader : Ob) (v1 : Int32) (v2 : Int32) (v3 : Int32) (v4 : Int32) (v5 : Int32) : Option (Ob × Int32) :=
  zb1 (f_X6_hasPlaceFor o_t_reader (20 : Int32)) fun (r1 : Int32) =>
  if r1 = 0 then (
  some (o_t_reader, (-1 : Int32))
  ) else (
  zb1 (f_X6_addNumber o_t_reader v1) fun (o3 : Ob) =>
  zb1 (f_X6_addNumber o3 v2) fun (o5 : Ob) =>
  zb1 (f_X6_addNumber o5 v3) fun (o7 : Ob) =>
  zb1 (f_X6_addNumber o7 v4) fun (o9 : Ob) =>
  zb1 (f_X6_addNumber o9 v5) fun (o11 : Ob) =>
  some (o11, o11 1 0)
  )
def f_X11_end (o_t_reader : Ob) (v1 : Int32) : Option (Ob × Int32) :=
  if v1 < 0 then (
  some (o_t_reader, (0 : Int32))
  ) else (
  if v1 ≤ o_t_reader 1 0 then (
  nx (si o_t_reader 1 v1) fun o1 =>
  some (o1, (1 : Int32))
  ) else (
  some (o_t_reader, (0 : Int32))
  )
  )
def f_X11_store (o_t_reader : Ob) (o_t_draft : Ob) (o_t_state : Ob) (o_t_state_wares : Ob) (o_t_state_shelf : Ob) (o_t_state_log : Ob) (o_t_state_b0 : Ob) (o_t_state_b1 : Ob) (o_t_state_b2 : Ob) (o_t_history : Ob) (o_t_planner : Ob) : Option (Ob × Ob × Ob × Ob × Ob × Ob × Ob × Ob × Ob × Ob × Ob × Int32) :=
  zb3 (f_X6_readStore o_t_reader o_t_draft) fun (o1 : Ob) (o2 : Ob) (r3 : Int32) =>
  nx (si o1 1 (0 : Int32)) fun o5 =>
  if r3 = 0 then (
  some (o5, o2, o_t_state, o_t_state_wares, o_t_state_shelf, o_t_state_log, o_t_state_b0, o_t_state_b1, o_t_state_b2, o_t_history, o_t_planner, (-1000 : Int32) - (o5 3 0))
  ) else (
  zb7 (f_X9_begin o_t_state o_t_state_wares o_t_state_shelf o_t_state_log o_t_state_b0 o_t_state_b1 o_t_state_b2 o2 (o5 4 0) (o5 5 0)) fun (o6 : Ob) (o7 : Ob) (o8 : Ob) (o9 : Ob) (o10 : Ob) (o11 : Ob) (o12 : Ob) =>
  zb1 (f_X3_forget o_t_history) fun (o14 : Ob) =>
  zb1 (f_X5_forget o_t_planner) fun (o16 : Ob) =>
  some (o5, o2, o6, o7, o8, o9, o10, o11, o12, o14, o16, o2 0 0)
  )
def f_X11_fault (o_t_reader : Ob) : Option (Int32) :=
  some (o_t_reader 2 0)
def f_X11_now (o_t_reader : Ob) (o_t_state : Ob) (o_t_state_wares : Ob) (o_t_state_shelf : Ob) (o_t_state_log : Ob) (v1 : Int32) : Option (Int32) :=
  if v1 = (0 : Int32) then (
  some (o_t_state_shelf 0 0)
  ) else (
  if v1 = (1 : Int32) then (
  some (o_t_state_shelf 1 0)
  ) else (
  if v1 = (2 : Int32) then (
  some (o_t_state_wares 0 0)
  ) else (
  if v1 = (3 : Int32) then (
  some (o_t_state_shelf 2 0)
  ) else (
  if v1 = (4 : Int32) then (
  zb1 (f_X8_free o_t_state_shelf) fun (r5 : Int32) =>
  some r5
  ) else (
  if v1 = (5 : Int32) then (
  some (o_t_state 4 0)
  ) else (
  if v1 = (6 : Int32) then (
  some (o_t_state_log 0 0)
  ) else (
  if v1 = (7 : Int32) then (
  some (o_t_reader 1 0)
  ) else (
  if v1 = (8 : Int32) then (
  some (o_t_state 5 0)
  ) else (
  if v1 = (9 : Int32) then (
  some (o_t_state 6 0)
  ) else (
  some (-1 : Int32)
  ))))))))))
def f_X11_floatBits (v0 : UInt32) : Option (Int32) :=
  if 0 < Op.cmpValue (FP.fcmp v0 FP.fconst0) .g then (
  zb2 (zl3 (fun (k10 : UInt32) (k11 : Int32) (k12 : Int32) => (
  if (127 : Int32) ≤ k12 then (
  some (.inr (k10, k11))
  ) else (
  if Op.cmpValue (FP.fcmp k10 FP.fconst2) .l < 0 then (
  some (.inr (k10, k11))
  ) else (
  gq (FP.fdiv k10 FP.fconst2) <|
  nx (FP.fdiv k10 FP.fconst2) fun x42 =>
  nx (k11 + (1 : Int32)) fun x43 =>
  nx (k12 + (1 : Int32)) fun x44 =>
  some (.inl (x42, x43, x44))
  )
  )
  )) FU v0 (127 : Int32) (0 : Int32)) <| fun (k13 : UInt32) (k14 : Int32) =>
  zb2 (zl3 (fun (k24 : UInt32) (k25 : Int32) (k26 : Int32) => (
  if (126 : Int32) ≤ k26 then (
  some (.inr (k24, k25))
  ) else (
  if 0 ≤ Op.cmpValue (FP.fcmp k24 FP.fconst1) .g then (
  some (.inr (k24, k25))
  ) else (
  gq (FP.fmul k24 FP.fconst2) <|
  nx (FP.fmul k24 FP.fconst2) fun x33 =>
  nx (k25 + (-1 : Int32)) fun x34 =>
  nx (k26 + (1 : Int32)) fun x35 =>
  some (.inl (x33, x34, x35))
  )
  )
  )) FU k13 k14 (0 : Int32)) <| fun (k27 : UInt32) (k28 : Int32) =>
  gq (FP.fmul k27 (1258291200 : UInt32)) <|
  some (((k28 <<< ((23 : Int32) &&& 31)) + (FP.f2i (FP.fmul k27 (1258291200 : UInt32)))) - (8388608 : Int32))
  ) else (
  some (0 : Int32)
  )
def f_X11_item (o_t_state_wares : Ob) (o_t_state_shelf : Ob) (v1 : Int32) (v2 : Int32) : Option (Int32) :=
  zb1 (f_X10_has o_t_state_wares v1) fun (r1 : Int32) =>
  if r1 = 0 then (
  some (-1 : Int32)
  ) else (
  if v2 = (0 : Int32) then (
  gi v1 8 <|
  some (o_t_state_wares 1 (Int32.toNatClampNeg v1))
  ) else (
  if v2 = (1 : Int32) then (
  gi v1 8 <|
  some (o_t_state_wares 2 (Int32.toNatClampNeg v1))
  ) else (
  if v2 = (2 : Int32) then (
  gi v1 8 <|
  some (o_t_state_wares 3 (Int32.toNatClampNeg v1))
  ) else (
  if v2 = (3 : Int32) then (
  gi v1 8 <|
  some (o_t_state_shelf 4 (Int32.toNatClampNeg v1))
  ) else (
  if v2 = (4 : Int32) then (
  gi v1 8 <|
  some (o_t_state_shelf 5 (Int32.toNatClampNeg v1))
  ) else (
  if v2 = (5 : Int32) then (
  gi v1 8 <|
  zb1 (f_X11_floatBits ((o_t_state_shelf 6 (Int32.toNatClampNeg v1)).toUInt32)) fun (r14 : Int32) =>
  some r14
  ) else (
  some (-1 : Int32)
  ))))))
  )
def f_X11_picture (o_t : Ob) (o_t_state_wares : Ob) (o_t_state_shelf : Ob) : Option (Ob × Int32) :=
  zb2 (zl3 (fun (o75 : Ob) (k76 : Int32) (k77 : Int32) => (
  if o_t_state_wares 0 0 ≤ k77 then (
  some (.inr (o75, k76))
  ) else (
  zb1 (f_X8_holds o_t_state_shelf k77) fun (r119 : Int32) =>
  nx (fun (j123 : Int32) => (
  zb2 (zl3 (fun (o153 : Ob) (k154 : Int32) (k155 : Int32) => (
  if j123 ≤ k155 then (
  some (.inr (o153, k154))
  ) else (
  if (20 : Int32) ≤ k154 then (
  some (.inr (o153, k154))
  ) else (
  nx (k154 + (1 : Int32)) fun x161 =>
  zb1 (f_X10_firstLetter o_t_state_wares k77) fun (r162 : Int32) =>
  gi k154 20 <|
  nx (sa o153 12 (upd (o153 12) (Int32.toNatClampNeg k154) r162)) fun o165 =>
  nx (k155 + (1 : Int32)) fun x166 =>
  some (.inl (o165, x161, x166))
  )
  )
  )) FU o75 k76 (0 : Int32)) <| fun (o156 : Ob) (k157 : Int32) =>
  nx (k77 + (1 : Int32)) fun x158 =>
  some (.inl (o156, k157, x158))
  )) fun K124 =>
  if r119 = 0 then (
  K124 (0 : Int32)
  ) else (
  gi k77 8 <|
  K124 (o_t_state_wares 1 (Int32.toNatClampNeg k77))
  )
  )
  )) FU o_t (0 : Int32) (0 : Int32)) <| fun (o78 : Ob) (k79 : Int32) =>
  zb2 (zl2 (fun (o104 : Ob) (k105 : Int32) => (
  if o_t_state_shelf 0 0 ≤ k105 then (
  some (.inr (o104, k105))
  ) else (
  if (20 : Int32) ≤ k105 then (
  some (.inr (o104, k105))
  ) else (
  nx (k105 + (1 : Int32)) fun x111 =>
  gi k105 20 <|
  nx (sa o104 12 (upd (o104 12) (Int32.toNatClampNeg k105) (46 : Int32))) fun o113 =>
  some (.inl (o113, x111))
  )
  )
  )) FU o78 k79) <| fun (o106 : Ob) (k107 : Int32) =>
  nx (si o106 13 k107) fun o108 =>
  some (o108, k107)
def f_X11_byteAt (o_t : Ob) (v1 : Int32) : Option (Int32) :=
  if v1 < 0 then (
  some (-1 : Int32)
  ) else (
  if o_t 13 0 ≤ v1 then (
  some (-1 : Int32)
  ) else (
  gi v1 20 <|
  some (o_t 12 (Int32.toNatClampNeg v1))
  )
  )
def f_X11_draw (o_t : Ob) (v1 : Int32) : Option (Ob × Int32) :=
  nx (si o_t 14 (((o_t 14 0) * (1103515245 : Int32)) + (12345 : Int32))) fun o1 =>
  if (1 : Int32) ≤ v1 then (
  gn v1 <|
  some (o1, (((Int32.toUInt32 (o1 14 0)) >>> ((Int32.toUInt32 (8 : Int32)) &&& Int32.toUInt32 31)).toInt32) - (((Int32.toUInt32 (o1 14 0)) >>> ((Int32.toUInt32 (8 : Int32)) &&& Int32.toUInt32 31)).toInt32) / v1 * v1)
  ) else (
  some (o1, (0 : Int32))
  )
def f_X11_drawItem (o_t : Ob) (o_t_state_wares : Ob) : Option (Ob × Int32) :=
  zb2 (f_X11_draw o_t (3 : Int32)) fun (o1 : Ob) (r2 : Int32) =>
  nx (fun (j5 : Int32) => (
  zb2 (f_X11_draw o1 (o_t_state_wares 0 0)) fun (o7 : Ob) (r8 : Int32) =>
  if j5 = 0 then (
  zb2 (f_X11_draw o7 (r8 + (1 : Int32))) fun (o10 : Ob) (r11 : Int32) =>
  some (o10, r11)
  ) else (
  some (o7, r8)
  )
  )) fun K6 =>
  if r2 = 0 then (
  K6 (1 : Int32)
  ) else (
  K6 (0 : Int32)
  )
def f_X11_log (o_t_state_log : Ob) (v1 : Int32) (v2 : Int32) : Option (Int32) :=
  zb1 (f_X4_has o_t_state_log v1) fun (r1 : Int32) =>
  if r1 = 0 then (
  some (-1 : Int32)
  ) else (
  if v2 = (0 : Int32) then (
  gi v1 40 <|
  some (o_t_state_log 1 (Int32.toNatClampNeg v1))
  ) else (
  if v2 = (1 : Int32) then (
  gi v1 40 <|
  some (o_t_state_log 2 (Int32.toNatClampNeg v1))
  ) else (
  if v2 = (2 : Int32) then (
  gi v1 40 <|
  some (o_t_state_log 3 (Int32.toNatClampNeg v1))
  ) else (
  some (-1 : Int32)
  )))
  )
def f_X11_spentIn (v0 : Int32) (v1 : Int32) : Option (Int32) :=
  if v1 = (0 : Int32) then (
  some (1 : Int32)
  ) else (
  if v1 = (1 : Int32) then (
  if v0 = 0 then (
  some (1 : Int32)
  ) else (
  some (0 : Int32)
  )
  ) else (
  some v0
  ))
def f_X11_spent (o_t_state_wares : Ob) (o_t_state_log : Ob) (v1 : Int32) (v2 : Int32) : Option (Int32) :=
  zb1 (f_X10_has o_t_state_wares v1) fun (r1 : Int32) =>
  if r1 = 0 then (
  some (-1 : Int32)
  ) else (
  if v2 < 0 then (
  some (-1 : Int32)
  ) else (
  if v2 ≤ (2 : Int32) then (
  zb1 (zl2 (fun (k32 : Int32) (k33 : Int32) => (
  if o_t_state_log 0 0 ≤ k33 then (
  some (.inr k32)
  ) else (
  gi k33 40 <|
  if o_t_state_log 1 (Int32.toNatClampNeg k33) = v1 then (
  gi k33 40 <|
  zb1 (f_X11_spentIn (o_t_state_log 2 (Int32.toNatClampNeg k33)) v2) fun (r40 : Int32) =>
  nx (k32 + r40) fun x42 =>
  nx (k33 + (1 : Int32)) fun x43 =>
  some (.inl (x42, x43))
  ) else (
  nx (k33 + (1 : Int32)) fun x38 =>
  some (.inl (k32, x38))
  )
  )
  )) FU (0 : Int32) (0 : Int32)) <| fun (k34 : Int32) =>
  some k34
  ) else (
  some (-1 : Int32)
  )
  )
  )
def f_X11_hindrance (o_t_state_wares : Ob) (o_t_state_shelf : Ob) (v1 : Int32) (v2 : Int32) : Option (Int32) :=
  zb1 (f_X8_holds o_t_state_shelf v1) fun (r1 : Int32) =>
  nx (fun (j4 : Int32) => (
  if r1 = j4 then (
  some (1 : Int32)
  ) else (
  if v2 = (1 : Int32) then (
  gi v1 8 <|
  zb1 (f_X8_free o_t_state_shelf) fun (r7 : Int32) =>
  if o_t_state_wares 1 (Int32.toNatClampNeg v1) ≤ r7 then (
  some (0 : Int32)
  ) else (
  some (2 : Int32)
  )
  ) else (
  some (0 : Int32)
  )
  )
  )) fun K5 =>
  if v2 = (1 : Int32) then (
  K5 (1 : Int32)
  ) else (
  K5 (0 : Int32)
  )
def f_X11_gate (o_t_gates : Ob) (v1 : Int32) : Option (Int32) :=
  if v1 < 0 then (
  some (-1 : Int32)
  ) else (
  if o_t_gates 1 0 ≤ v1 then (
  some (-1 : Int32)
  ) else (
  gi v1 60 <|
  some (o_t_gates 0 (Int32.toNatClampNeg v1))
  )
  )
def f_X11_canShift (o_t_state_wares : Ob) (o_t_state_shelf : Ob) (v1 : Int32) (v2 : Int32) : Option (Int32) :=
  if v2 < (1 : Int32) then (
  some (0 : Int32)
  ) else (
  if (40 : Int32) < v2 then (
  some (0 : Int32)
  ) else (
  if v1 < 0 then (
  some (0 : Int32)
  ) else (
  if v1 < (1 : Int32) <<< ((o_t_state_wares 0 0) &&& 31) then (
  nx ((o_t_state_shelf 2 0) ^^^ v1) fun x1 =>
  ze1 (zl2 (fun (k33 : Int32) (k34 : Int32) => (
  if o_t_state_wares 0 0 ≤ k34 then (
  some (.inr (.inl k33))
  ) else (
  nx (fun (_ : Unit) => (
  gi k34 8 <|
  nx (k33 + (((v1 >>> (k34 &&& 31)) &&& (1 : Int32)) * (o_t_state_wares 1 (Int32.toNatClampNeg k34)))) fun x44 =>
  nx (k34 + (1 : Int32)) fun x45 =>
  some (.inl (x44, x45))
  )) fun K42 =>
  if (x1 >>> (k34 &&& 31)) &&& (1 : Int32) = (1 : Int32) then (
  gi k34 8 <|
  if o_t_state_wares 1 (Int32.toNatClampNeg k34) ≤ v2 then (
  K42 ()
  ) else (
  some (.inr (.inr (0 : Int32)))
  )
  ) else (
  K42 ()
  )
  )
  )) FU (0 : Int32) (0 : Int32)) (fun r => some r) <| fun (k35 : Int32) =>
  if o_t_state_shelf 0 0 < k35 then (
  some (0 : Int32)
  ) else (
  some (1 : Int32)
  )
  ) else (
  some (0 : Int32)
  )
  )
  )
  )
def f_X11_rides (o_t_state_wares : Ob) (o_t_state_shelf : Ob) (o_t_toldRides : Ob) (v1 : Int32) (v2 : Int32) : Option (Ob × Int32) :=
  zb1 (f_X11_canShift o_t_state_wares o_t_state_shelf v1 v2) fun (r1 : Int32) =>
  if r1 = 0 then (
  some (o_t_toldRides, (-1 : Int32))
  ) else (
  zb1 (f_X7_find o_t_toldRides o_t_state_wares o_t_state_shelf v1 v2) fun (o3 : Ob) =>
  some (o3, o3 0 0)
  )
def f_X11_ride (o_t_toldRides : Ob) (v1 : Int32) : Option (Int32) :=
  if v1 < 0 then (
  some (-1 : Int32)
  ) else (
  if o_t_toldRides 0 0 ≤ v1 then (
  some (-1 : Int32)
  ) else (
  gi v1 8 <|
  some (o_t_toldRides 1 (Int32.toNatClampNeg v1))
  )
  )
def f_X11_moveAll (o_t_state : Ob) (o_t_state_wares : Ob) (o_t_state_shelf : Ob) (o_t_state_b0 : Ob) (o_t_state_b1 : Ob) (o_t_state_b2 : Ob) (o_t_gates : Ob) (o_t_deeds : Ob) (v1 : Int32) : Option (Ob × Ob × Ob × Ob × Ob × Ob × Ob) :=
  zb7 (zl8 (fun (o32 : Ob) (o33 : Ob) (o34 : Ob) (o35 : Ob) (o36 : Ob) (o37 : Ob) (o38 : Ob) (k39 : Int32) => (
  if o_t_state_wares 0 0 ≤ k39 then (
  some (.inr (o32, o33, o34, o35, o36, o37, o38))
  ) else (
  if (v1 >>> (k39 &&& 31)) &&& (1 : Int32) = (1 : Int32) then (
  zb7 (f_X9_move o32 o_t_state_wares o33 o34 o35 o36 o38 o37 k39) fun (o50 : Ob) (o51 : Ob) (o52 : Ob) (o53 : Ob) (o54 : Ob) (o55 : Ob) (o56 : Ob) =>
  nx (k39 + (1 : Int32)) fun x58 =>
  some (.inl (o50, o51, o52, o53, o54, o56, o55, x58))
  ) else (
  nx (k39 + (1 : Int32)) fun x49 =>
  some (.inl (o32, o33, o34, o35, o36, o37, o38, x49))
  )
  )
  )) FU o_t_state o_t_state_shelf o_t_state_b0 o_t_state_b1 o_t_state_b2 o_t_gates o_t_deeds (0 : Int32)) <| fun (o40 : Ob) (o41 : Ob) (o42 : Ob) (o43 : Ob) (o44 : Ob) (o45 : Ob) (o46 : Ob) =>
  some (o40, o41, o42, o43, o44, o45, o46)
def f_X11_book (o_t_state_b0 : Ob) (o_t_state_b1 : Ob) (o_t_state_b2 : Ob) (v1 : Int32) (v2 : Int32) (v3 : Int32) : Option (Ob × Ob × Ob × Int32) :=
  if v1 < 0 then (
  some (o_t_state_b0, o_t_state_b1, o_t_state_b2, (-1 : Int32))
  ) else (
  if (3 : Int32) ≤ v1 then (
  some (o_t_state_b0, o_t_state_b1, o_t_state_b2, (-1 : Int32))
  ) else (
  if v2 < 0 then (
  some (o_t_state_b0, o_t_state_b1, o_t_state_b2, (-1 : Int32))
  ) else (
  if (3 : Int32) < v2 then (
  some (o_t_state_b0, o_t_state_b1, o_t_state_b2, (-1 : Int32))
  ) else (
  if v3 < 0 then (
  some (o_t_state_b0, o_t_state_b1, o_t_state_b2, (-1 : Int32))
  ) else (
  if v3 ≤ (30 : Int32) then (
  gi v1 3 <|
  if v1 = (0 : Int32) then (
  zb1 (f_X0_begin o_t_state_b0 v2 v3) fun (o2 : Ob) =>
  some (o2, o_t_state_b1, o_t_state_b2, (0 : Int32))
  ) else if v1 = (1 : Int32) then (
  zb1 (f_X0_begin o_t_state_b1 v2 v3) fun (o4 : Ob) =>
  some (o_t_state_b0, o4, o_t_state_b2, (0 : Int32))
  ) else (
  zb1 (f_X0_begin o_t_state_b2 v2 v3) fun (o6 : Ob) =>
  some (o_t_state_b0, o_t_state_b1, o6, (0 : Int32))
  )
  ) else (
  some (o_t_state_b0, o_t_state_b1, o_t_state_b2, (-1 : Int32))
  )
  )
  )
  )
  )
  )
def f_X11_booked (o_t_state_b0 : Ob) (o_t_state_b1 : Ob) (o_t_state_b2 : Ob) (v1 : Int32) (v2 : Int32) : Option (Int32) :=
  if v1 < 0 then (
  some (-1 : Int32)
  ) else (
  if (3 : Int32) ≤ v1 then (
  some (-1 : Int32)
  ) else (
  gi v1 3 <|
  if v1 = (0 : Int32) then (
  if o_t_state_b0 0 0 = 0 then (
  some (-1 : Int32)
  ) else (
  if v2 = (0 : Int32) then (
  some (o_t_state_b0 3 0)
  ) else (
  if v2 = (1 : Int32) then (
  some (o_t_state_b0 4 0)
  ) else (
  if v2 = (2 : Int32) then (
  some (o_t_state_b0 5 0)
  ) else (
  if v2 = (3 : Int32) then (
  some (o_t_state_b0 6 0)
  ) else (
  if v2 = (4 : Int32) then (
  some (o_t_state_b0 1 0)
  ) else (
  if v2 = (5 : Int32) then (
  some (o_t_state_b0 2 0)
  ) else (
  some (-1 : Int32)
  ))))))
  )
  ) else if v1 = (1 : Int32) then (
  if o_t_state_b1 0 0 = 0 then (
  some (-1 : Int32)
  ) else (
  if v2 = (0 : Int32) then (
  some (o_t_state_b1 3 0)
  ) else (
  if v2 = (1 : Int32) then (
  some (o_t_state_b1 4 0)
  ) else (
  if v2 = (2 : Int32) then (
  some (o_t_state_b1 5 0)
  ) else (
  if v2 = (3 : Int32) then (
  some (o_t_state_b1 6 0)
  ) else (
  if v2 = (4 : Int32) then (
  some (o_t_state_b1 1 0)
  ) else (
  if v2 = (5 : Int32) then (
  some (o_t_state_b1 2 0)
  ) else (
  some (-1 : Int32)
  ))))))
  )
  ) else (
  if o_t_state_b2 0 0 = 0 then (
  some (-1 : Int32)
  ) else (
  if v2 = (0 : Int32) then (
  some (o_t_state_b2 3 0)
  ) else (
  if v2 = (1 : Int32) then (
  some (o_t_state_b2 4 0)
  ) else (
  if v2 = (2 : Int32) then (
  some (o_t_state_b2 5 0)
  ) else (
  if v2 = (3 : Int32) then (
  some (o_t_state_b2 6 0)
  ) else (
  if v2 = (4 : Int32) then (
  some (o_t_state_b2 1 0)
  ) else (
  if v2 = (5 : Int32) then (
  some (o_t_state_b2 2 0)
  ) else (
  some (-1 : Int32)
  ))))))
  )
  )
  )
  )
def f_X11_line (o_t_state_b0 : Ob) (o_t_state_b1 : Ob) (o_t_state_b2 : Ob) (v1 : Int32) (v2 : Int32) (v3 : Int32) : Option (Int32) :=
  if v1 < 0 then (
  some (-1 : Int32)
  ) else (
  if (3 : Int32) ≤ v1 then (
  some (-1 : Int32)
  ) else (
  if v2 < 0 then (
  some (-1 : Int32)
  ) else (
  gi v1 3 <|
  if v1 = (0 : Int32) then (
  if v2 < o_t_state_b0 3 0 then (
  if v3 = (0 : Int32) then (
  gi v2 30 <|
  some (o_t_state_b0 7 (Int32.toNatClampNeg v2))
  ) else (
  if v3 = (1 : Int32) then (
  gi v2 30 <|
  some (o_t_state_b0 8 (Int32.toNatClampNeg v2))
  ) else (
  if v3 = (2 : Int32) then (
  gi v2 30 <|
  some (o_t_state_b0 9 (Int32.toNatClampNeg v2))
  ) else (
  some (-1 : Int32)
  )))
  ) else (
  some (-1 : Int32)
  )
  ) else if v1 = (1 : Int32) then (
  if v2 < o_t_state_b1 3 0 then (
  if v3 = (0 : Int32) then (
  gi v2 30 <|
  some (o_t_state_b1 7 (Int32.toNatClampNeg v2))
  ) else (
  if v3 = (1 : Int32) then (
  gi v2 30 <|
  some (o_t_state_b1 8 (Int32.toNatClampNeg v2))
  ) else (
  if v3 = (2 : Int32) then (
  gi v2 30 <|
  some (o_t_state_b1 9 (Int32.toNatClampNeg v2))
  ) else (
  some (-1 : Int32)
  )))
  ) else (
  some (-1 : Int32)
  )
  ) else (
  if v2 < o_t_state_b2 3 0 then (
  if v3 = (0 : Int32) then (
  gi v2 30 <|
  some (o_t_state_b2 7 (Int32.toNatClampNeg v2))
  ) else (
  if v3 = (1 : Int32) then (
  gi v2 30 <|
  some (o_t_state_b2 8 (Int32.toNatClampNeg v2))
  ) else (
  if v3 = (2 : Int32) then (
  gi v2 30 <|
  some (o_t_state_b2 9 (Int32.toNatClampNeg v2))
  ) else (
  some (-1 : Int32)
  )))
  ) else (
  some (-1 : Int32)
  )
  )
  )
  )
  )
def f_X11_leastPaid (o_t_state_wares : Ob) (o_t_state_shelf : Ob) (o_t_state_log : Ob) (o_t_planner : Ob) (v1 : Int32) : Option (Ob × Int32) :=
  zb1 (f_X5_follow 10496 o_t_planner o_t_state_wares o_t_state_shelf o_t_state_log (o_t_state_shelf 0 0) (-1 : Int32)) fun (o1 : Ob) =>
  zb1 (f_X5_least 10496 o1 v1) fun (r3 : Int32) =>
  some (o1, r3)
def f_X11_best (o_t_state_wares : Ob) (o_t_state_shelf : Ob) (o_t_state_log : Ob) (o_t_planner : Ob) : Option (Ob × Int32) :=
  if o_t_state_log 0 0 = 0 then (
  some (o_t_planner, (-1 : Int32))
  ) else (
  zb2 (f_X11_leastPaid o_t_state_wares o_t_state_shelf o_t_state_log o_t_planner (o_t_state_log 0 0)) fun (o1 : Ob) (r2 : Int32) =>
  some (o1, r2)
  )
def f_X11_upTo (o_t_state_wares : Ob) (o_t_state_shelf : Ob) (o_t_state_log : Ob) (o_t_planner : Ob) (v1 : Int32) : Option (Ob × Int32) :=
  zb1 (f_X4_has o_t_state_log v1) fun (r1 : Int32) =>
  if r1 = 0 then (
  some (o_t_planner, (-1 : Int32))
  ) else (
  zb2 (f_X11_leastPaid o_t_state_wares o_t_state_shelf o_t_state_log o_t_planner (v1 + (1 : Int32))) fun (o3 : Ob) (r4 : Int32) =>
  some (o3, r4)
  )
def f_X11_trace (o_t_state_wares : Ob) (o_t_state_shelf : Ob) (o_t_state_log : Ob) (o_t_planner : Ob) : Option (Ob) :=
  zb1 (f_X5_follow 10496 o_t_planner o_t_state_wares o_t_state_shelf o_t_state_log (o_t_state_shelf 0 0) (-1 : Int32)) fun (o1 : Ob) =>
  zb1 (f_X5_trace 10496 o1 o_t_state_wares o_t_state_log) fun (o3 : Ob) =>
  some o3
def f_X11_plan (o_t_state_wares : Ob) (o_t_state_shelf : Ob) (o_t_state_log : Ob) (o_t_planner : Ob) (v1 : Int32) (v2 : Int32) : Option (Ob × Int32) :=
  zb1 (f_X4_has o_t_state_log v1) fun (r1 : Int32) =>
  if r1 = 0 then (
  some (o_t_planner, (-1 : Int32))
  ) else (
  if v2 < 0 then (
  some (o_t_planner, (-1 : Int32))
  ) else (
  if v2 ≤ (1 : Int32) then (
  zb1 (f_X11_trace o_t_state_wares o_t_state_shelf o_t_state_log o_t_planner) fun (o3 : Ob) =>
  if v2 = 0 then (
  zb1 (f_X5_paysAt o3 o_t_state_wares o_t_state_log v1) fun (r6 : Int32) =>
  some (o3, r6)
  ) else (
  gi v1 40 <|
  some (o3, o3 9 (Int32.toNatClampNeg v1))
  )
  ) else (
  some (o_t_planner, (-1 : Int32))
  )
  )
  )
def f_X11_potentialBehind (o_t_state_wares : Ob) (o_t_state_shelf : Ob) (o_t_state_log : Ob) (o_t_planner : Ob) (v1 : Int32) : Option (Int32) :=
  zb2 (zl3 (fun (k34 : Int32) (k35 : Int32) (k36 : Int32) => (
  if o_t_state_wares 0 0 ≤ k36 then (
  some (.inr (k34, k35))
  ) else (
  zb1 (f_X4_densityBehind o_t_state_log v1 k36) fun (r41 : Int32) =>
  gi k36 8 <|
  nx (r41 * (o_t_state_wares 1 (Int32.toNatClampNeg k36))) fun x44 =>
  nx (k34 + x44) fun x45 =>
  gi v1 40 <|
  if ((o_t_planner 9 (Int32.toNatClampNeg v1)) >>> (k36 &&& 31)) &&& (1 : Int32) = (1 : Int32) then (
  gi k36 8 <|
  nx (k35 + (((60 : Int32) * (o_t_state_wares 2 (Int32.toNatClampNeg k36))) - x44)) fun x49 =>
  nx (k36 + (1 : Int32)) fun x50 =>
  some (.inl (x45, x49, x50))
  ) else (
  nx (k36 + (1 : Int32)) fun x47 =>
  some (.inl (x45, k35, x47))
  )
  )
  )) FU (0 : Int32) (0 : Int32) (0 : Int32)) <| fun (k37 : Int32) (k38 : Int32) =>
  some ((((o_t_state_shelf 0 0) - (1 : Int32)) * k37) + ((o_t_state_shelf 0 0) * k38))
def f_X11_potential (o_t_state_wares : Ob) (o_t_state_shelf : Ob) (o_t_state_log : Ob) (o_t_planner : Ob) (v1 : Int32) : Option (Ob × Int32) :=
  zb1 (f_X4_has o_t_state_log v1) fun (r1 : Int32) =>
  if r1 = 0 then (
  some (o_t_planner, (-1 : Int32))
  ) else (
  zb1 (f_X11_trace o_t_state_wares o_t_state_shelf o_t_state_log o_t_planner) fun (o3 : Ob) =>
  zb1 (f_X11_potentialBehind o_t_state_wares o_t_state_shelf o_t_state_log o3 v1) fun (r5 : Int32) =>
  some (o3, r5)
  )
def f_X11_proof (o_t_state_wares : Ob) (o_t_state_shelf : Ob) (o_t_state_log : Ob) (o_t_planner : Ob) (v1 : Int32) : Option (Ob × Int32) :=
  zb1 (f_X4_has o_t_state_log v1) fun (r1 : Int32) =>
  if r1 = 0 then (
  some (o_t_planner, (-1000000000 : Int32))
  ) else (
  zb1 (f_X11_trace o_t_state_wares o_t_state_shelf o_t_state_log o_t_planner) fun (o3 : Ob) =>
  zb1 (f_X11_potentialBehind o_t_state_wares o_t_state_shelf o_t_state_log o3 v1) fun (r5 : Int32) =>
  nx (fun (j10 : Int32) => (
  nx (r5 - j10) fun x12 =>
  zb1 (f_X5_paysAt o3 o_t_state_wares o_t_state_log v1) fun (r13 : Int32) =>
  nx (((60 : Int32) * (o_t_state_shelf 0 0)) * r13) fun x15 =>
  gi v1 40 <|
  some (o3, (x15 - ((60 : Int32) * (o_t_state_log 2 (Int32.toNatClampNeg v1)))) - x12)
  )) fun K11 =>
  if v1 = 0 then (
  K11 (0 : Int32)
  ) else (
  zb1 (f_X11_potentialBehind o_t_state_wares o_t_state_shelf o_t_state_log o3 (v1 - (1 : Int32))) fun (r17 : Int32) =>
  K11 r17
  )
  )
def f_X11_trialLeast (o_t_state_wares : Ob) (o_t_state_shelf : Ob) (o_t_state_log : Ob) (o_t_trialPlanner : Ob) (v1 : Int32) (v2 : Int32) : Option (Ob × Int32) :=
  zb1 (f_X5_forget o_t_trialPlanner) fun (o1 : Ob) =>
  zb1 (f_X5_follow 512 o1 o_t_state_wares o_t_state_shelf o_t_state_log v1 v2) fun (o3 : Ob) =>
  zb1 (f_X5_least 512 o3 (o_t_state_log 0 0)) fun (r5 : Int32) =>
  some (o3, r5)
def f_X11_bestWith (o_t_state_wares : Ob) (o_t_state_shelf : Ob) (o_t_state_log : Ob) (o_t_trialPlanner : Ob) (v1 : Int32) : Option (Ob × Int32) :=
  zb1 (f_X10_has o_t_state_wares v1) fun (r1 : Int32) =>
  if r1 = 0 then (
  some (o_t_trialPlanner, (-1 : Int32))
  ) else (
  if o_t_state_log 0 0 = 0 then (
  some (o_t_trialPlanner, (-1 : Int32))
  ) else (
  zb2 (f_X11_trialLeast o_t_state_wares o_t_state_shelf o_t_state_log o_t_trialPlanner (o_t_state_shelf 0 0) v1) fun (o3 : Ob) (r4 : Int32) =>
  if r4 < (1000000 : Int32) then (
  some (o3, r4)
  ) else (
  some (o3, (-1 : Int32))
  )
  )
  )
def f_X11_ratio (o_t_state_wares : Ob) (o_t_state_shelf : Ob) (o_t_state_log : Ob) (o_t_planner : Ob) : Option (Ob × Int32) :=
  zb2 (f_X11_best o_t_state_wares o_t_state_shelf o_t_state_log o_t_planner) fun (o1 : Ob) (r2 : Int32) =>
  if (1 : Int32) ≤ r2 then (
  zb1 (zl2 (fun (k28 : Int32) (k29 : Int32) => (
  if o_t_state_log 0 0 ≤ k29 then (
  some (.inr k28)
  ) else (
  gi k29 40 <|
  nx (k28 + (o_t_state_log 2 (Int32.toNatClampNeg k29))) fun x37 =>
  nx (k29 + (1 : Int32)) fun x38 =>
  some (.inl (x37, x38))
  )
  )) FU (0 : Int32) (0 : Int32)) <| fun (k30 : Int32) =>
  gq (FP.fdiv (FP.i2f k30) (FP.i2f r2)) <|
  zb1 (f_X11_floatBits (FP.fdiv (FP.i2f k30) (FP.i2f r2))) fun (r32 : Int32) =>
  some (o1, r32)
  ) else (
  some (o1, (-1 : Int32))
  )
def f_X11_soon (o_t_state_wares : Ob) (o_t_state_shelf : Ob) (o_t_deeds : Ob) (o_t_trial : Ob) (v1 : Int32) : Option (Ob × Ob × Int32) :=
  zb1 (f_X10_has o_t_state_wares v1) fun (r1 : Int32) =>
  if r1 = 0 then (
  some (o_t_deeds, o_t_trial, (-1 : Int32))
  ) else (
  zb1 (f_X8_copyFrom o_t_trial o_t_state_shelf) fun (o3 : Ob) =>
  ze2 (zl3 (fun (o34 : Ob) (o35 : Ob) (k36 : Int32) => (
  if (40 : Int32) < k36 then (
  some (.inr (.inl (o34, o35)))
  ) else (
  zb1 (f_X8_holds o35 v1) fun (r41 : Int32) =>
  if r41 = 0 then (
  nx (si o34 0 (0 : Int32)) fun o43 =>
  zb3 (f_X8_serve o35 o_t_state_wares o43 v1) fun (o44 : Ob) (o45 : Ob) (r46 : Int32) =>
  nx (k36 + (1 : Int32)) fun x48 =>
  some (.inl (o45, o44, x48))
  ) else (
  some (.inr (.inr (o34, o35, k36)))
  )
  )
  )) FU o_t_deeds o3 (0 : Int32)) (fun r => some r) <| fun (o37 : Ob) (o38 : Ob) =>
  some (o37, o38, (-1 : Int32))
  )
def f_X11_victims (o_t_state_wares : Ob) (o_t_state_shelf : Ob) (o_t_deeds : Ob) (o_t_trial : Ob) (v1 : Int32) : Option (Ob × Ob × Int32) :=
  zb1 (f_X10_has o_t_state_wares v1) fun (r1 : Int32) =>
  if r1 = 0 then (
  some (o_t_deeds, o_t_trial, (-1 : Int32))
  ) else (
  zb1 (f_X8_holds o_t_state_shelf v1) fun (r3 : Int32) =>
  if r3 = 0 then (
  gi v1 8 <|
  if o_t_state_wares 1 (Int32.toNatClampNeg v1) ≤ o_t_state_shelf 0 0 then (
  zb1 (f_X8_copyFrom o_t_trial o_t_state_shelf) fun (o6 : Ob) =>
  nx (si o_t_deeds 0 (0 : Int32)) fun o8 =>
  gi v1 8 <|
  zb2 (f_X8_makeWay o6 o_t_state_wares o8 (o_t_state_wares 1 (Int32.toNatClampNeg v1))) fun (o10 : Ob) (o11 : Ob) =>
  some (o11, o10, (o_t_state_shelf 2 0) ^^^ (o10 2 0))
  ) else (
  some (o_t_deeds, o_t_trial, (-1 : Int32))
  )
  ) else (
  some (o_t_deeds, o_t_trial, (-1 : Int32))
  )
  )
def f_X11_costBy (o_t_state_wares : Ob) (o_t_state_log : Ob) (o_t_deeds : Ob) (o_t_trial : Ob) (v1 : Int32) (v2 : Int32) : Option (Ob × Ob × Int32) :=
  zb1 (f_X8_begin o_t_trial v1 v2) fun (o1 : Ob) =>
  zb3 (zl4 (fun (o32 : Ob) (o33 : Ob) (k34 : Int32) (k35 : Int32) => (
  if o_t_state_log 0 0 ≤ k35 then (
  some (.inr (o32, o33, k34))
  ) else (
  nx (si o32 0 (0 : Int32)) fun o41 =>
  gi k35 40 <|
  zb3 (f_X8_serve o33 o_t_state_wares o41 (o_t_state_log 1 (Int32.toNatClampNeg k35))) fun (o43 : Ob) (o44 : Ob) (r45 : Int32) =>
  nx (k34 + r45) fun x47 =>
  nx (k35 + (1 : Int32)) fun x48 =>
  some (.inl (o44, o43, x47, x48))
  )
  )) FU o_t_deeds o1 (0 : Int32) (0 : Int32)) <| fun (o36 : Ob) (o37 : Ob) (k38 : Int32) =>
  some (o36, o37, k38)
def f_X11_curve (o_t_state_wares : Ob) (o_t_state_shelf : Ob) (o_t_state_log : Ob) (o_t_deeds : Ob) (o_t_trial : Ob) (o_t_trialPlanner : Ob) (v1 : Int32) (v2 : Int32) : Option (Ob × Ob × Ob × Int32) :=
  if v1 < (1 : Int32) then (
  some (o_t_deeds, o_t_trial, o_t_trialPlanner, (-1 : Int32))
  ) else (
  if (20 : Int32) < v1 then (
  some (o_t_deeds, o_t_trial, o_t_trialPlanner, (-1 : Int32))
  ) else (
  if v2 < 0 then (
  some (o_t_deeds, o_t_trial, o_t_trialPlanner, (-1 : Int32))
  ) else (
  if v2 ≤ (1 : Int32) then (
  if v2 = 0 then (
  zb3 (f_X11_costBy o_t_state_wares o_t_state_log o_t_deeds o_t_trial v1 (o_t_state_shelf 1 0)) fun (o4 : Ob) (o5 : Ob) (r6 : Int32) =>
  some (o4, o5, o_t_trialPlanner, r6)
  ) else (
  zb2 (f_X11_trialLeast o_t_state_wares o_t_state_shelf o_t_state_log o_t_trialPlanner v1 (-1 : Int32)) fun (o1 : Ob) (r2 : Int32) =>
  some (o_t_deeds, o_t_trial, o1, r2)
  )
  ) else (
  some (o_t_deeds, o_t_trial, o_t_trialPlanner, (-1 : Int32))
  )
  )
  )
  )
def f_X11_would (o_t_state_wares : Ob) (o_t_state_shelf : Ob) (o_t_state_log : Ob) (o_t_deeds : Ob) (o_t_trial : Ob) (v1 : Int32) : Option (Ob × Ob × Int32) :=
  if v1 < 0 then (
  some (o_t_deeds, o_t_trial, (-1 : Int32))
  ) else (
  if v1 ≤ (2 : Int32) then (
  zb3 (f_X11_costBy o_t_state_wares o_t_state_log o_t_deeds o_t_trial (o_t_state_shelf 0 0) v1) fun (o1 : Ob) (o2 : Ob) (r3 : Int32) =>
  some (o1, o2, r3)
  ) else (
  some (o_t_deeds, o_t_trial, (-1 : Int32))
  )
  )
def f_X3_keep (o_t : Ob) (o_p1 : Ob) (o_p1_wares : Ob) (o_p1_shelf : Ob) (o_p1_log : Ob) (o_p1_b0 : Ob) (o_p1_b1 : Ob) (o_p1_b2 : Ob) (P : PV) : Option (Ob × PV) :=
  nx (fun (q6 : Ob) => (
  zb1 (f_X3_place q6 (q6 2 0)) fun (r8 : Int32) =>
  gi r8 8 <|
  zb7 (f_X9_copyFrom (((P (Int32.toNatClampNeg r8)).getD V9) 0) (((P (Int32.toNatClampNeg r8)).getD V9) 1) (((P (Int32.toNatClampNeg r8)).getD V9) 2) (((P (Int32.toNatClampNeg r8)).getD V9) 3) (((P (Int32.toNatClampNeg r8)).getD V9) 4) (((P (Int32.toNatClampNeg r8)).getD V9) 5) (((P (Int32.toNatClampNeg r8)).getD V9) 6) o_p1 o_p1_wares o_p1_shelf o_p1_log o_p1_b0 o_p1_b1 o_p1_b2) fun (o10 : Ob) (o11 : Ob) (o12 : Ob) (o13 : Ob) (o14 : Ob) (o15 : Ob) (o16 : Ob) =>
  nx (upP P (Int32.toNatClampNeg r8) (v7 o10 o11 o12 o13 o14 o15 o16)) fun P17 =>
  nx (si q6 2 ((q6 2 0) + (1 : Int32))) fun o22 =>
  some (o22, P17)
  )) fun K7 =>
  if o_t 2 0 = (8 : Int32) then (
  zb1 (f_X3_place o_t (1 : Int32)) fun (r23 : Int32) =>
  nx (si o_t 1 r23) fun o25 =>
  nx (si o25 2 ((o25 2 0) - (1 : Int32))) fun o26 =>
  K7 o26
  ) else (
  K7 o_t
  )
def f_X3_takeBack (o_t : Ob) (o_p1 : Ob) (o_p1_wares : Ob) (o_p1_shelf : Ob) (o_p1_log : Ob) (o_p1_b0 : Ob) (o_p1_b1 : Ob) (o_p1_b2 : Ob) (P : PV) : Option (Ob × Ob × Ob × Ob × Ob × Ob × Ob × Ob × Int32) :=
  if (1 : Int32) ≤ o_t 2 0 then (
  zb1 (f_X3_place o_t ((o_t 2 0) - (1 : Int32))) fun (r1 : Int32) =>
  gi r1 8 <|
  zp (P (Int32.toNatClampNeg r1)) (
  some (o_t, o_p1, o_p1_wares, o_p1_shelf, o_p1_log, o_p1_b0, o_p1_b1, o_p1_b2, (0 : Int32))
  ) fun VV => (
  nx (si o_t 2 ((o_t 2 0) - (1 : Int32))) fun o4 =>
  zb7 (f_X9_copyFrom o_p1 o_p1_wares o_p1_shelf o_p1_log o_p1_b0 o_p1_b1 o_p1_b2 (VV 0) (VV 1) (VV 2) (VV 3) (VV 4) (VV 5) (VV 6)) fun (o5 : Ob) (o6 : Ob) (o7 : Ob) (o8 : Ob) (o9 : Ob) (o10 : Ob) (o11 : Ob) =>
  some (o4, o5, o6, o7, o8, o9, o10, o11, (1 : Int32))
  )
  ) else (
  some (o_t, o_p1, o_p1_wares, o_p1_shelf, o_p1_log, o_p1_b0, o_p1_b1, o_p1_b2, (0 : Int32))
  )
def f_X11_startAnew (o_t_state : Ob) (o_t_state_wares : Ob) (o_t_state_shelf : Ob) (o_t_state_log : Ob) (o_t_state_b0 : Ob) (o_t_state_b1 : Ob) (o_t_state_b2 : Ob) (o_t_history : Ob) (o_t_planner : Ob) (P : PV) (v1 : Int32) (v2 : Int32) : Option (Ob × Ob × Ob × Ob × PV × Int32) :=
  zb2 (f_X3_keep o_t_history o_t_state o_t_state_wares o_t_state_shelf o_t_state_log o_t_state_b0 o_t_state_b1 o_t_state_b2 P) fun (o1 : Ob) (P2 : PV) =>
  zb1 (f_X5_forget o_t_planner) fun (o6 : Ob) =>
  zb1 (f_J6_bitCount_0f7a4 (o_t_state_shelf 2 0)) fun (r8 : Int32) =>
  zb1 (f_X8_begin o_t_state_shelf v1 v2) fun (o10 : Ob) =>
  nx (si o_t_state_log 0 (0 : Int32)) fun o12 =>
  some (o10, o12, o1, o6, P2, r8)
def f_X11_room (o_t_state : Ob) (o_t_state_wares : Ob) (o_t_state_shelf : Ob) (o_t_state_log : Ob) (o_t_state_b0 : Ob) (o_t_state_b1 : Ob) (o_t_state_b2 : Ob) (o_t_history : Ob) (o_t_planner : Ob) (P : PV) (v1 : Int32) : Option (Ob × Ob × Ob × Ob × PV × Int32) :=
  if v1 < (1 : Int32) then (
  some (o_t_state_shelf, o_t_state_log, o_t_history, o_t_planner, P, (-1 : Int32))
  ) else (
  if (20 : Int32) < v1 then (
  some (o_t_state_shelf, o_t_state_log, o_t_history, o_t_planner, P, (-1 : Int32))
  ) else (
  if v1 = o_t_state_shelf 0 0 then (
  some (o_t_state_shelf, o_t_state_log, o_t_history, o_t_planner, P, (-1 : Int32))
  ) else (
  zb6 (f_X11_startAnew o_t_state o_t_state_wares o_t_state_shelf o_t_state_log o_t_state_b0 o_t_state_b1 o_t_state_b2 o_t_history o_t_planner P v1 (o_t_state_shelf 1 0)) fun (o1 : Ob) (o2 : Ob) (o3 : Ob) (o4 : Ob) (P5 : PV) (r6 : Int32) =>
  some (o1, o2, o3, o4, P5, r6)
  )
  )
  )
def f_X11_rule (o_t_state : Ob) (o_t_state_wares : Ob) (o_t_state_shelf : Ob) (o_t_state_log : Ob) (o_t_state_b0 : Ob) (o_t_state_b1 : Ob) (o_t_state_b2 : Ob) (o_t_history : Ob) (o_t_planner : Ob) (P : PV) (v1 : Int32) : Option (Ob × Ob × Ob × Ob × PV × Int32) :=
  if v1 < 0 then (
  some (o_t_state_shelf, o_t_state_log, o_t_history, o_t_planner, P, (-1 : Int32))
  ) else (
  if (2 : Int32) < v1 then (
  some (o_t_state_shelf, o_t_state_log, o_t_history, o_t_planner, P, (-1 : Int32))
  ) else (
  if v1 = o_t_state_shelf 1 0 then (
  some (o_t_state_shelf, o_t_state_log, o_t_history, o_t_planner, P, (-1 : Int32))
  ) else (
  zb6 (f_X11_startAnew o_t_state o_t_state_wares o_t_state_shelf o_t_state_log o_t_state_b0 o_t_state_b1 o_t_state_b2 o_t_history o_t_planner P (o_t_state_shelf 0 0) v1) fun (o1 : Ob) (o2 : Ob) (o3 : Ob) (o4 : Ob) (P5 : PV) (r6 : Int32) =>
  some (o1, o2, o3, o4, P5, r6)
  )
  )
  )
def f_X11_request (o_t_state : Ob) (o_t_state_wares : Ob) (o_t_state_shelf : Ob) (o_t_state_log : Ob) (o_t_state_b0 : Ob) (o_t_state_b1 : Ob) (o_t_state_b2 : Ob) (o_t_history : Ob) (o_t_gates : Ob) (o_t_deeds : Ob) (P : PV) (v1 : Int32) : Option (Ob × Ob × Ob × Ob × Ob × Ob × Ob × Ob × Ob × PV × Int32) :=
  zb1 (f_X10_has o_t_state_wares v1) fun (r1 : Int32) =>
  if r1 = 0 then (
  some (o_t_state, o_t_state_shelf, o_t_state_log, o_t_state_b0, o_t_state_b1, o_t_state_b2, o_t_history, o_t_gates, o_t_deeds, P, (-2 : Int32))
  ) else (
  zb1 (f_X4_isFull o_t_state_log) fun (r3 : Int32) =>
  if r3 = 0 then (
  zb2 (f_X3_keep o_t_history o_t_state o_t_state_wares o_t_state_shelf o_t_state_log o_t_state_b0 o_t_state_b1 o_t_state_b2 P) fun (o5 : Ob) (P6 : PV) =>
  zb1 (f_X2_newCall o_t_gates) fun (o10 : Ob) =>
  zb9 (f_X9_ask o_t_state o_t_state_wares o_t_state_shelf o_t_state_log o_t_state_b0 o_t_state_b1 o_t_state_b2 o_t_deeds o10 v1) fun (o12 : Ob) (o13 : Ob) (o14 : Ob) (o15 : Ob) (o16 : Ob) (o17 : Ob) (o18 : Ob) (o19 : Ob) (r20 : Int32) =>
  some (o12, o13, o14, o15, o16, o17, o5, o19, o18, P6, r20)
  ) else (
  some (o_t_state, o_t_state_shelf, o_t_state_log, o_t_state_b0, o_t_state_b1, o_t_state_b2, o_t_history, o_t_gates, o_t_deeds, P, (-3 : Int32))
  )
  )
def f_X11_names (o_t_reader : Ob) (o_t_state : Ob) (o_t_state_wares : Ob) (o_t_state_shelf : Ob) (o_t_state_log : Ob) (o_t_state_b0 : Ob) (o_t_state_b1 : Ob) (o_t_state_b2 : Ob) (o_t_history : Ob) (o_t_gates : Ob) (o_t_deeds : Ob) (P : PV) : Option (Ob × Ob × Ob × Ob × Ob × Ob × Ob × Ob × Ob × Ob × PV × Int32) :=
  zb2 (f_X6_readSteps o_t_reader o_t_state_wares) fun (o1 : Ob) (r2 : Int32) =>
  nx (si o1 1 (0 : Int32)) fun o4 =>
  if r2 = 0 then (
  some (o4, o_t_state, o_t_state_shelf, o_t_state_log, o_t_state_b0, o_t_state_b1, o_t_state_b2, o_t_history, o_t_gates, o_t_deeds, P, (-1000 : Int32) - (o4 3 0))
  ) else (
  zb2 (f_X3_keep o_t_history o_t_state o_t_state_wares o_t_state_shelf o_t_state_log o_t_state_b0 o_t_state_b1 o_t_state_b2 P) fun (o5 : Ob) (P6 : PV) =>
  zb1 (f_X2_newCall o_t_gates) fun (o10 : Ob) =>
  zb9 (zl10 (fun (o49 : Ob) (o50 : Ob) (o51 : Ob) (o52 : Ob) (o53 : Ob) (o54 : Ob) (o55 : Ob) (o56 : Ob) (k57 : Int32) (k58 : Int32) => (
  if o4 9 0 ≤ k58 then (
  some (.inr (o49, o50, o51, o52, o53, o54, o55, o56, k57))
  ) else (
  zb1 (f_X4_isFull o51) fun (r70 : Int32) =>
  if r70 = 0 then (
  gi k58 40 <|
  zb9 (f_X9_ask o49 o_t_state_wares o50 o51 o52 o53 o54 o56 o55 (o4 8 (Int32.toNatClampNeg k58))) fun (o73 : Ob) (o74 : Ob) (o75 : Ob) (o76 : Ob) (o77 : Ob) (o78 : Ob) (o79 : Ob) (o80 : Ob) (r81 : Int32) =>
  nx (k57 + r81) fun x83 =>
  nx (k58 + (1 : Int32)) fun x84 =>
  some (.inl (o73, o74, o75, o76, o77, o78, o80, o79, x83, x84))
  ) else (
  some (.inr (o49, o50, o51, o52, o53, o54, o55, o56, k57))
  )
  )
  )) FU o_t_state o_t_state_shelf o_t_state_log o_t_state_b0 o_t_state_b1 o_t_state_b2 o10 o_t_deeds (0 : Int32) (0 : Int32)) <| fun (o59 : Ob) (o60 : Ob) (o61 : Ob) (o62 : Ob) (o63 : Ob) (o64 : Ob) (o65 : Ob) (o66 : Ob) (k67 : Int32) =>
  some (o4, o59, o60, o61, o62, o63, o64, o5, o65, o66, P6, k67)
  )
def f_X11_drawn (o_t : Ob) (o_t_state : Ob) (o_t_state_wares : Ob) (o_t_state_shelf : Ob) (o_t_state_log : Ob) (o_t_state_b0 : Ob) (o_t_state_b1 : Ob) (o_t_state_b2 : Ob) (o_t_history : Ob) (o_t_gates : Ob) (o_t_deeds : Ob) (P : PV) (v1 : Int32) (v2 : Int32) : Option (Ob × Ob × Ob × Ob × Ob × Ob × Ob × Ob × Ob × Ob × PV × Int32) :=
  if v1 < (1 : Int32) then (
  some (o_t, o_t_state, o_t_state_shelf, o_t_state_log, o_t_state_b0, o_t_state_b1, o_t_state_b2, o_t_history, o_t_gates, o_t_deeds, P, (-1 : Int32))
  ) else (
  if (40 : Int32) < v1 then (
  some (o_t, o_t_state, o_t_state_shelf, o_t_state_log, o_t_state_b0, o_t_state_b1, o_t_state_b2, o_t_history, o_t_gates, o_t_deeds, P, (-1 : Int32))
  ) else (
  if o_t_state_wares 0 0 = 0 then (
  some (o_t, o_t_state, o_t_state_shelf, o_t_state_log, o_t_state_b0, o_t_state_b1, o_t_state_b2, o_t_history, o_t_gates, o_t_deeds, P, (-1 : Int32))
  ) else (
  zb2 (f_X3_keep o_t_history o_t_state o_t_state_wares o_t_state_shelf o_t_state_log o_t_state_b0 o_t_state_b1 o_t_state_b2 P) fun (o1 : Ob) (P2 : PV) =>
  zb1 (f_X2_newCall o_t_gates) fun (o6 : Ob) =>
  nx (si o_t 14 v2) fun o8 =>
  zb10 (zl11 (fun (o48 : Ob) (o49 : Ob) (o50 : Ob) (o51 : Ob) (o52 : Ob) (o53 : Ob) (o54 : Ob) (o55 : Ob) (o56 : Ob) (k57 : Int32) (k58 : Int32) => (
  if v1 ≤ k58 then (
  some (.inr (o48, o49, o50, o51, o52, o53, o54, o55, o56, k57))
  ) else (
  zb1 (f_X4_isFull o51) fun (r71 : Int32) =>
  if r71 = 0 then (
  zb2 (f_X11_drawItem o48 o_t_state_wares) fun (o73 : Ob) (r74 : Int32) =>
  zb9 (f_X9_ask o49 o_t_state_wares o50 o51 o52 o53 o54 o56 o55 r74) fun (o76 : Ob) (o77 : Ob) (o78 : Ob) (o79 : Ob) (o80 : Ob) (o81 : Ob) (o82 : Ob) (o83 : Ob) (r84 : Int32) =>
  nx (k57 + r84) fun x86 =>
  nx (k58 + (1 : Int32)) fun x87 =>
  some (.inl (o73, o76, o77, o78, o79, o80, o81, o83, o82, x86, x87))
  ) else (
  some (.inr (o48, o49, o50, o51, o52, o53, o54, o55, o56, k57))
  )
  )
  )) FU o8 o_t_state o_t_state_shelf o_t_state_log o_t_state_b0 o_t_state_b1 o_t_state_b2 o6 o_t_deeds (0 : Int32) (0 : Int32)) <| fun (o59 : Ob) (o60 : Ob) (o61 : Ob) (o62 : Ob) (o63 : Ob) (o64 : Ob) (o65 : Ob) (o66 : Ob) (o67 : Ob) (k68 : Int32) =>
  some (o59, o60, o61, o62, o63, o64, o65, o1, o66, o67, P2, k68)
  )
  )
  )
def f_X11_carry (o_t_state : Ob) (o_t_state_wares : Ob) (o_t_state_shelf : Ob) (o_t_state_log : Ob) (o_t_state_b0 : Ob) (o_t_state_b1 : Ob) (o_t_state_b2 : Ob) (o_t_history : Ob) (o_t_gates : Ob) (o_t_deeds : Ob) (P : PV) (v1 : Int32) (v2 : Int32) : Option (Ob × Ob × Ob × Ob × Ob × Ob × Ob × Ob × PV × Int32) :=
  zb1 (f_X10_has o_t_state_wares v1) fun (r1 : Int32) =>
  if r1 = 0 then (
  some (o_t_state, o_t_state_shelf, o_t_state_b0, o_t_state_b1, o_t_state_b2, o_t_history, o_t_gates, o_t_deeds, P, (-2 : Int32))
  ) else (
  if v2 < 0 then (
  some (o_t_state, o_t_state_shelf, o_t_state_b0, o_t_state_b1, o_t_state_b2, o_t_history, o_t_gates, o_t_deeds, P, (-2 : Int32))
  ) else (
  if v2 ≤ (1 : Int32) then (
  zb1 (f_X2_newCall o_t_gates) fun (o3 : Ob) =>
  zb1 (f_X11_hindrance o_t_state_wares o_t_state_shelf v1 v2) fun (r5 : Int32) =>
  if r5 = 0 then (
  zb2 (f_X3_keep o_t_history o_t_state o_t_state_wares o_t_state_shelf o_t_state_log o_t_state_b0 o_t_state_b1 o_t_state_b2 P) fun (o7 : Ob) (P8 : PV) =>
  zb7 (f_X9_move o_t_state o_t_state_wares o_t_state_shelf o_t_state_b0 o_t_state_b1 o_t_state_b2 o_t_deeds o3 v1) fun (o12 : Ob) (o13 : Ob) (o14 : Ob) (o15 : Ob) (o16 : Ob) (o17 : Ob) (o18 : Ob) =>
  some (o12, o13, o14, o15, o16, o7, o18, o17, P8, (0 : Int32))
  ) else (
  zb1 (f_X2_pass o3) fun (o20 : Ob) =>
  some (o_t_state, o_t_state_shelf, o_t_state_b0, o_t_state_b1, o_t_state_b2, o_t_history, o20, o_t_deeds, P, r5)
  )
  ) else (
  some (o_t_state, o_t_state_shelf, o_t_state_b0, o_t_state_b1, o_t_state_b2, o_t_history, o_t_gates, o_t_deeds, P, (-2 : Int32))
  )
  )
  )
def f_X11_shift (o_t_state : Ob) (o_t_state_wares : Ob) (o_t_state_shelf : Ob) (o_t_state_log : Ob) (o_t_state_b0 : Ob) (o_t_state_b1 : Ob) (o_t_state_b2 : Ob) (o_t_history : Ob) (o_t_gates : Ob) (o_t_deeds : Ob) (o_t_doneRides : Ob) (P : PV) (v1 : Int32) (v2 : Int32) : Option (Ob × Ob × Ob × Ob × Ob × Ob × Ob × Ob × Ob × PV × Int32) :=
  zb1 (f_X11_canShift o_t_state_wares o_t_state_shelf v1 v2) fun (r1 : Int32) =>
  if r1 = 0 then (
  some (o_t_state, o_t_state_shelf, o_t_state_b0, o_t_state_b1, o_t_state_b2, o_t_history, o_t_gates, o_t_deeds, o_t_doneRides, P, (-1 : Int32))
  ) else (
  nx (o_t_state_shelf 2 0) fun x3 =>
  if v1 = x3 then (
  some (o_t_state, o_t_state_shelf, o_t_state_b0, o_t_state_b1, o_t_state_b2, o_t_history, o_t_gates, o_t_deeds, o_t_doneRides, P, (0 : Int32))
  ) else (
  zb1 (f_X7_find o_t_doneRides o_t_state_wares o_t_state_shelf v1 v2) fun (o4 : Ob) =>
  zb2 (f_X3_keep o_t_history o_t_state o_t_state_wares o_t_state_shelf o_t_state_log o_t_state_b0 o_t_state_b1 o_t_state_b2 P) fun (o6 : Ob) (P7 : PV) =>
  zb1 (f_X2_newCall o_t_gates) fun (o11 : Ob) =>
  zb7 (zl8 (fun (o52 : Ob) (o53 : Ob) (o54 : Ob) (o55 : Ob) (o56 : Ob) (o57 : Ob) (o58 : Ob) (k59 : Int32) => (
  if o4 0 0 ≤ k59 then (
  some (.inr (o52, o53, o54, o55, o56, o57, o58))
  ) else (
  gi k59 8 <|
  zb7 (f_X11_moveAll o52 o_t_state_wares o53 o54 o55 o56 o57 o58 ((o4 1 (Int32.toNatClampNeg k59)) &&& x3)) fun (o72 : Ob) (o73 : Ob) (o74 : Ob) (o75 : Ob) (o76 : Ob) (o77 : Ob) (o78 : Ob) =>
  gi k59 8 <|
  zb7 (f_X11_moveAll o72 o_t_state_wares o73 o74 o75 o76 o77 o78 ((o4 1 (Int32.toNatClampNeg k59)) &&& v1)) fun (o81 : Ob) (o82 : Ob) (o83 : Ob) (o84 : Ob) (o85 : Ob) (o86 : Ob) (o87 : Ob) =>
  nx (k59 + (1 : Int32)) fun x89 =>
  some (.inl (o81, o82, o83, o84, o85, o86, o87, x89))
  )
  )) FU o_t_state o_t_state_shelf o_t_state_b0 o_t_state_b1 o_t_state_b2 o11 o_t_deeds (0 : Int32)) <| fun (o60 : Ob) (o61 : Ob) (o62 : Ob) (o63 : Ob) (o64 : Ob) (o65 : Ob) (o66 : Ob) =>
  zb1 (f_J6_bitCount_0f7a4 (x3 ^^^ v1)) fun (r67 : Int32) =>
  some (o60, o61, o62, o63, o64, o6, o65, o66, o4, P7, r67)
  )
  )
def f_X11_undo (o_t_state : Ob) (o_t_state_wares : Ob) (o_t_state_shelf : Ob) (o_t_state_log : Ob) (o_t_state_b0 : Ob) (o_t_state_b1 : Ob) (o_t_state_b2 : Ob) (o_t_history : Ob) (o_t_planner : Ob) (P : PV) : Option (Ob × Ob × Ob × Ob × Ob × Ob × Ob × Ob × Ob × Int32) :=
  zb9 (f_X3_takeBack o_t_history o_t_state o_t_state_wares o_t_state_shelf o_t_state_log o_t_state_b0 o_t_state_b1 o_t_state_b2 P) fun (o1 : Ob) (o2 : Ob) (o3 : Ob) (o4 : Ob) (o5 : Ob) (o6 : Ob) (o7 : Ob) (o8 : Ob) (r9 : Int32) =>
  if r9 = 0 then (
  some (o2, o3, o4, o5, o6, o7, o8, o1, o_t_planner, (-1 : Int32))
  ) else (
  zb1 (f_X5_forget o_t_planner) fun (o13 : Ob) =>
  some (o2, o3, o4, o5, o6, o7, o8, o1, o13, o1 2 0)
  )
def f_X11_image (o_t_state : Ob) (o_t_state_wares : Ob) (o_t_state_shelf : Ob) (o_t_state_log : Ob) (o_t_state_b0 : Ob) (o_t_state_b1 : Ob) (o_t_state_b2 : Ob) (P : PV) (v1 : Int32) : Option (PV × Int32) :=
  if v1 < 0 then (
  some (P, (0 : Int32))
  ) else (
  if v1 < (2 : Int32) then (
  gi v1 2 <|
  zb7 (f_X9_copyFrom (((P (Int32.toNatClampNeg v1)).getD V9) 0) (((P (Int32.toNatClampNeg v1)).getD V9) 1) (((P (Int32.toNatClampNeg v1)).getD V9) 2) (((P (Int32.toNatClampNeg v1)).getD V9) 3) (((P (Int32.toNatClampNeg v1)).getD V9) 4) (((P (Int32.toNatClampNeg v1)).getD V9) 5) (((P (Int32.toNatClampNeg v1)).getD V9) 6) o_t_state o_t_state_wares o_t_state_shelf o_t_state_log o_t_state_b0 o_t_state_b1 o_t_state_b2) fun (o1 : Ob) (o2 : Ob) (o3 : Ob) (o4 : Ob) (o5 : Ob) (o6 : Ob) (o7 : Ob) =>
  nx (upP P (Int32.toNatClampNeg v1) (v7 o1 o2 o3 o4 o5 o6 o7)) fun P8 =>
  some (P8, (1 : Int32))
  ) else (
  some (P, (0 : Int32))
  )
  )
def f_X11_restore (o_t_state : Ob) (o_t_state_wares : Ob) (o_t_state_shelf : Ob) (o_t_state_log : Ob) (o_t_state_b0 : Ob) (o_t_state_b1 : Ob) (o_t_state_b2 : Ob) (o_t_history : Ob) (o_t_planner : Ob) (P : PV) (v1 : Int32) : Option (Ob × Ob × Ob × Ob × Ob × Ob × Ob × Ob × Ob × Int32) :=
  if v1 < 0 then (
  some (o_t_state, o_t_state_wares, o_t_state_shelf, o_t_state_log, o_t_state_b0, o_t_state_b1, o_t_state_b2, o_t_history, o_t_planner, (0 : Int32))
  ) else (
  if (2 : Int32) ≤ v1 then (
  some (o_t_state, o_t_state_wares, o_t_state_shelf, o_t_state_log, o_t_state_b0, o_t_state_b1, o_t_state_b2, o_t_history, o_t_planner, (0 : Int32))
  ) else (
  gi v1 2 <|
  zp (P (Int32.toNatClampNeg v1)) (
  some (o_t_state, o_t_state_wares, o_t_state_shelf, o_t_state_log, o_t_state_b0, o_t_state_b1, o_t_state_b2, o_t_history, o_t_planner, (0 : Int32))
  ) fun VV => (
  zb7 (f_X9_copyFrom o_t_state o_t_state_wares o_t_state_shelf o_t_state_log o_t_state_b0 o_t_state_b1 o_t_state_b2 (VV 0) (VV 1) (VV 2) (VV 3) (VV 4) (VV 5) (VV 6)) fun (o2 : Ob) (o3 : Ob) (o4 : Ob) (o5 : Ob) (o6 : Ob) (o7 : Ob) (o8 : Ob) =>
  zb1 (f_X3_forget o_t_history) fun (o10 : Ob) =>
  zb1 (f_X5_forget o_t_planner) fun (o12 : Ob) =>
  some (o2, o3, o4, o5, o6, o7, o8, o10, o12, (1 : Int32))
  )
  )
  )
