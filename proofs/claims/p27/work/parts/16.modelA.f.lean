def fX6_in  (p0 p1 p2 : Int32) : Option (Int32) :=
if p0 < p1 then (
some 0) else (
if p2 < p0 then (
some 0) else (
some 1))
def fX6_isWord (XM : DM) (p1 : Int32) : Option (Int32) :=
bnd (fX6_in p1 0 ((XM 9 0) - 1)) fun r1 =>
some r1
def fX6_isSentence (XM : DM) (p1 : Int32) : Option (Int32) :=
bnd (fX6_in p1 0 ((XM 10 0) - 1)) fun r1 =>
some r1
def fX6_isPage (XM : DM) (p1 : Int32) : Option (Int32) :=
bnd (fX6_in p1 0 ((XM 11 0) - 1)) fun r1 =>
some r1
def fX6_records_L51 (n : Nat) (k85_ : DM → Option (DM)) : Nat → Int32 → DM → Option (DM)
  | 0, _, _ => none
  | fu + 1, x1, XM =>
    if 348 ≤ x1 then (
    k85_ XM) else (
    bnd (rdA 348 (XM 0) x1) fun v4 =>
    bnd (wrA 1392 (XM 1) ((348 * (XM 2 0)) + x1) v4) fun f7 =>
    sl (va_up XM 1 f7) fun X10 =>
    sl (x1 + 1) fun v12 =>
    fX6_records_L51 n k85_ fu v12 X10)
def fX6_records_L10 (n : Nat) (k39_ : DM → Option (DM)) : Nat → Int32 → DM → Option (DM)
  | 0, _, _ => none
  | fu + 1, x1, XM =>
    if 1044 ≤ x1 then (
    k39_ XM) else (
    bnd (rdA 1392 (XM 1) (x1 + 348)) fun v18 =>
    bnd (wrA 1392 (XM 1) x1 v18) fun f21 =>
    sl (va_up XM 1 f21) fun X24 =>
    sl (x1 + 1) fun v26 =>
    fX6_records_L10 n k39_ fu v26 X24)
def fX6_records (n : Nat) (XM : DM)  : Option (DM) :=
sl (fun (XM : DM) =>
sl (fun (XM : DM) =>
sl (va_up XM 2 (fun _ => ((XM 2 0) + 1))) fun X1 =>
some X1) fun j85 =>
fX6_records_L51 n j85 n 0 XM) fun j49 =>
if (XM 2 0) = 4 then (
sl (fun (XM : DM) =>
sl (va_up XM 2 (fun _ => ((XM 2 0) - 1))) fun X15 =>
j49 X15) fun j39 =>
fX6_records_L10 n j39 n 0 XM) else (
j49 XM)
def fX6_isFigure  (p0 : Int32) : Option (Int32) :=
bnd (fX6_in p0 48 57) fun r1 =>
some r1
def fX6_isLetter  (p0 : Int32) : Option (Int32) :=
bnd (fX6_isFigure p0) fun r1 =>
if r1 = 0 then (
bnd (fX6_in p0 97 122) fun r7 =>
if r7 = 0 then (
bnd (fX6_in p0 65 90) fun r13 =>
if r13 = 0 then (
some 0) else (
some 1)) else (
some 1)) else (
some 1)
def fX6_kindOf_L26 (n : Nat) (XM : DM) (k89_ : Int32 → Int32 → Option (Int32)) : Nat → Int32 → Int32 → Option (Int32)
  | 0, _, _ => none
  | fu + 1, x1, x3 =>
    if x3 < x1 then (
    k89_ x1 x3) else (
    bnd (rdA 348 (XM 0) (1 + x3)) fun v14 =>
    sl (fun (x1 : Int32) (x3 : Int32) =>
    sl (x3 + (-1)) fun v17 =>
    fX6_kindOf_L26 n XM k89_ fu x1 v17) fun j83 =>
    if v14 = 41 then (
    j83 x1 x3) else (
    bnd (rdA 348 (XM 0) (1 + x3)) fun v20 =>
    if v20 = 93 then (
    j83 x1 x3) else (
    bnd (rdA 348 (XM 0) (1 + x3)) fun v24 =>
    if v24 = 34 then (
    j83 x1 x3) else (
    bnd (rdA 348 (XM 0) (1 + x3)) fun v28 =>
    if v28 = 39 then (
    j83 x1 x3) else (
    k89_ x1 x3)))))
def fX6_kindOf (n : Nat) (XM : DM) (p1 p2 : Int32) : Option (Int32) :=
sl (fun (x1 : Int32) (x2 : Int32) =>
sl ((x1 + x2) - 1) fun v1 =>
sl (fun (x1 : Int32) (x3 : Int32) =>
sl (fun (k0 : Int32) =>
if k0 = 46 then (
some 2) else (
if k0 = 33 then (
some 2) else (
if k0 = 63 then (
some 2) else (
if k0 = 44 then (
some 1) else (
if k0 = 59 then (
some 1) else (
if k0 = 58 then (
some 1) else (
some 0))))))) fun j106 =>
if x1 ≤ x3 then (
bnd (rdA 348 (XM 0) (1 + x3)) fun v10 =>
j106 v10) else (
j106 0)) fun j89 =>
fX6_kindOf_L26 n XM j89 n x1 v1) fun j20 =>
if p2 = 1 then (
bnd (rdA 348 (XM 0) (1 + p1)) fun v33 =>
if v33 = 124 then (
some 3) else (
j20 p1 p2)) else (
j20 p1 p2)
def fX6_readsWord_L48 (n : Nat) (k126_ : Int32 → DM → Option (DM)) : Nat → Int32 → Int32 → Int32 → Int32 → DM → Option (DM)
  | 0, _, _, _, _, _ => none
  | fu + 1, x1, x2, x3, x4, XM =>
    if (x1 + x2) ≤ x4 then (
    k126_ x3 XM) else (
    bnd (rdA 151 (XM 14) x3) fun v60 =>
    bnd (rdA 348 (XM 0) (1 + x4)) fun v63 =>
    bnd (fX6_isLetter v63) fun r66 =>
    sl (fun (x1 : Int32) (x2 : Int32) (x3 : Int32) (x4 : Int32) (k1 : Int32) (k2 : Int32) (k3 : Int32) (XM : DM) =>
    bnd (wrA 151 (XM 14) k1 (k2 + k3)) fun f71 =>
    sl (va_up XM 14 f71) fun X74 =>
    bnd (rdA 151 (X74 16) x3) fun v76 =>
    sl (fun (x1 : Int32) (x2 : Int32) (x3 : Int32) (x4 : Int32) (k1 : Int32) (k2 : Int32) (XM : DM) =>
    bnd (wrA 151 (XM 16) k1 (vp_nar .boolean k2)) fun f79 =>
    sl (va_up XM 16 f79) fun X82 =>
    sl (x4 + 1) fun v84 =>
    fX6_readsWord_L48 n k126_ fu x1 x2 x3 v84 X82) fun j119 =>
    sl (fun (x1 : Int32) (x2 : Int32) (x3 : Int32) (x4 : Int32) (k1 : Int32) (XM : DM) =>
    j119 x1 x2 x3 x4 k1 1 XM) fun j114 =>
    if v76 = 0 then (
    bnd (rdA 348 (X74 0) (1 + x4)) fun v87 =>
    bnd (fX6_isFigure v87) fun r90 =>
    if r90 = 0 then (
    j119 x1 x2 x3 x4 x3 0 X74) else (
    j114 x1 x2 x3 x4 x3 X74)) else (
    j114 x1 x2 x3 x4 x3 X74)) fun j83 =>
    if r66 = 0 then (
    j83 x1 x2 x3 x4 x3 v60 0 XM) else (
    j83 x1 x2 x3 x4 x3 v60 1 XM))
def fX6_readsWord (n : Nat) (XM : DM) (p1 p2 : Int32) : Option (DM) :=
bnd (wrA 151 (XM 12) (XM 9 0) p1) fun f1 =>
sl (va_up XM 12 f1) fun X4 =>
bnd (wrA 151 (X4 13) (XM 9 0) p2) fun f6 =>
sl (va_up X4 13 f6) fun X9 =>
bnd (fX6_kindOf n X9 p1 p2) fun r11 =>
bnd (wrA 151 (X9 15) (XM 9 0) r11) fun f16 =>
sl (va_up X9 15 f16) fun X19 =>
bnd (wrA 151 (X19 14) (XM 9 0) 0) fun f21 =>
sl (va_up X19 14 f21) fun X24 =>
bnd (wrA 151 (X24 16) (XM 9 0) (vp_nar .boolean 0)) fun f26 =>
sl (va_up X24 16 f26) fun X29 =>
sl (fun (x3 : Int32) (XM : DM) =>
sl (fun (x3 : Int32) (k1 : Int32) (k2 : Int32) (XM : DM) =>
bnd (wrA 151 (XM 17) k1 k2) fun f31 =>
sl (va_up XM 17 f31) fun X34 =>
sl (fun (k1 : Int32) (k2 : Int32) (XM : DM) =>
bnd (wrA 151 (XM 18) k1 k2) fun f36 =>
sl (va_up XM 18 f36) fun X39 =>
sl (va_up X39 9 (fun _ => ((X39 9 0) + 1))) fun X41 =>
some X41) fun j205 =>
if x3 = 0 then (
j205 x3 0 X34) else (
bnd (rdA 151 (X34 18) (x3 - 1)) fun v44 =>
bnd (rdA 151 (X34 15) (x3 - 1)) fun v47 =>
sl (fun (k1 : Int32) (k2 : Int32) (k3 : Int32) (XM : DM) =>
j205 k1 (k2 + k3) XM) fun j204 =>
if v47 = 3 then (
j204 x3 v44 1 X34) else (
j204 x3 v44 0 X34))) fun j165 =>
if x3 = 0 then (
j165 x3 x3 0 XM) else (
bnd (rdA 151 (XM 17) (x3 - 1)) fun v52 =>
bnd (rdA 151 (XM 15) (x3 - 1)) fun v55 =>
sl (fun (x3 : Int32) (k1 : Int32) (k2 : Int32) (k3 : Int32) (XM : DM) =>
j165 x3 k1 (k2 + k3) XM) fun j164 =>
if v55 ≤ 1 then (
j164 x3 x3 v52 0 XM) else (
j164 x3 x3 v52 1 XM))) fun j126 =>
fX6_readsWord_L48 n j126 n p1 p2 (XM 9 0) p1 X29
def fX6_parses_L9 (n : Nat) (k82_ : DM → Option (DM)) : Nat → Int32 → Int32 → DM → Option (DM)
  | 0, _, _, _ => none
  | fu + 1, x1, x2, XM =>
    bnd (rdA 348 (XM 0) 0) fun v15 =>
    if v15 < x2 then (
    k82_ XM) else (
    bnd (rdA 348 (XM 0) 0) fun v19 =>
    sl (fun (x1 : Int32) (x2 : Int32) (k0 : Int32) (XM : DM) =>
    sl (fun (x1 : Int32) (x2 : Int32) (x3 : Int32) (XM : DM) =>
    sl (fun (x2 : Int32) (k0 : Int32) (XM : DM) =>
    sl (x2 + 1) fun v22 =>
    fX6_parses_L9 n k82_ fu k0 v22 XM) fun j75 =>
    if x3 = 0 then (
    j75 x2 (x1 + 1) XM) else (
    j75 x2 0 XM)) fun j64 =>
    if k0 = 0 then (
    j64 x1 x2 k0 XM) else (
    if x1 ≤ 0 then (
    j64 x1 x2 k0 XM) else (
    bnd (fX6_readsWord n XM (x2 - x1) x1) fun X27 =>
    j64 x1 x2 k0 X27))) fun j47 =>
    sl (fun (x1 : Int32) (x2 : Int32) (XM : DM) =>
    j47 x1 x2 1 XM) fun j42 =>
    if x2 = v19 then (
    j42 x1 x2 XM) else (
    bnd (rdA 348 (XM 0) (1 + x2)) fun v30 =>
    if v30 = 32 then (
    j42 x1 x2 XM) else (
    j47 x1 x2 0 XM)))
def fX6_parses (n : Nat) (XM : DM)  : Option (DM) :=
sl (va_up XM 9 (fun _ => 0)) fun X1 =>
sl (fun (XM : DM) =>
sl (fun (k1 : Int32) (XM : DM) =>
sl (va_up XM 10 (fun _ => k1)) fun X3 =>
sl (fun (k1 : Int32) (XM : DM) =>
sl (va_up XM 11 (fun _ => k1)) fun X5 =>
some X5) fun j135 =>
if (X3 9 0) = 0 then (
j135 0 X3) else (
bnd (rdA 151 (X3 18) ((X3 9 0) - 1)) fun v8 =>
j135 (v8 + 1) X3)) fun j107 =>
if (XM 9 0) = 0 then (
j107 0 XM) else (
bnd (rdA 151 (XM 17) ((XM 9 0) - 1)) fun v12 =>
j107 (v12 + 1) XM)) fun j82 =>
fX6_parses_L9 n j82 n 0 0 X1
def fX6_classOf (XM : DM) (p1 : Int32) : Option (Int32) :=
bnd (rdA 151 (XM 14) p1) fun v1 =>
if 5 ≤ v1 then (
bnd (rdA 151 (XM 14) p1) fun v5 =>
if 9 ≤ v5 then (
some 2) else (
some 1)) else (
some 0)
def fX6_measureOf (XM : DM) (p1 : Int32) : Option (Int32) :=
bnd (rdA 151 (XM 14) p1) fun v1 =>
sl (fun (k0 : Int32) =>
bnd (rdA 348 (XM 0) 334) fun v4 =>
if v4 ≤ k0 then (
some k0) else (
bnd (rdA 348 (XM 0) 334) fun v8 =>
some v8)) fun j25 =>
if v1 ≤ 10 then (
j25 v1) else (
bnd (dvA (v1 - 9) 2) fun v12 =>
j25 (v1 - v12))
def fX6_timeBy (XM : DM) (p1 p2 : Int32) : Option (Int32) :=
bnd (rdA 151 (XM 15) p1) fun v1 =>
if v1 = 3 then (
some 0) else (
bnd (rdA 151 (XM 15) p1) fun v5 =>
sl (fun (x1 : Int32) (x2 : Int32) (k0 : Int32) =>
bnd (rdA 151 (XM 16) x1) fun v8 =>
sl (fun (x1 : Int32) (x2 : Int32) (k0 : Int32) =>
bnd (fX6_measureOf XM x1) fun r11 =>
bnd (rdA 348 (XM 0) 333) fun v16 =>
bnd (dvA ((((r11 * v16) * k0) + x2) - 1) x2) fun v19 =>
some v19) fun j68 =>
if v8 = 0 then (
j68 x1 x2 k0) else (
bnd (rdA 348 (XM 0) 337) fun v23 =>
bnd (dvA (k0 * v23) 100) fun v26 =>
j68 x1 x2 v26)) fun j41 =>
if v5 = 0 then (
j41 p1 p2 100) else (
bnd (rdA 151 (XM 15) p1) fun v30 =>
bnd (rdA 348 (XM 0) (334 + v30)) fun v33 =>
j41 p1 p2 v33))
def fX6_timeOf (XM : DM) (p1 : Int32) : Option (Int32) :=
bnd (fX6_classOf XM p1) fun r1 =>
bnd (rdA 348 (XM 0) (330 + r1)) fun v6 =>
bnd (fX6_timeBy XM p1 v6) fun r9 =>
some r9
def fX6_isShown (XM : DM) (p1 : Int32) : Option (Int32) :=
bnd (rdA 151 (XM 15) p1) fun v1 =>
if v1 = 3 then (
some 0) else (
some 1)
def fX6_firstOf_L2 (n : Nat) (XM : DM)  : Nat → Int32 → Int32 → Option (Int32)
  | 0, _, _ => none
  | fu + 1, x1, x2 =>
    if (XM 9 0) ≤ x2 then (
    some (-1)) else (
    bnd (rdA 151 (XM 17) x2) fun v2 =>
    sl (fun (x1 : Int32) (x2 : Int32) =>
    sl (x2 + 1) fun v5 =>
    fX6_firstOf_L2 n XM fu x1 v5) fun j30 =>
    if v2 = x1 then (
    bnd (fX6_isShown XM x2) fun r8 =>
    if r8 = 0 then (
    j30 x1 x2) else (
    some x2)) else (
    j30 x1 x2))
def fX6_firstOf (n : Nat) (XM : DM) (p1 : Int32) : Option (Int32) :=
fX6_firstOf_L2 n XM n p1 0
def fX6_firstShown_L2 (n : Nat) (XM : DM)  : Nat → Int32 → Option (Int32)
  | 0, _ => none
  | fu + 1, x1 =>
    if (XM 9 0) ≤ x1 then (
    some (-1)) else (
    bnd (fX6_isShown XM x1) fun r2 =>
    if r2 = 0 then (
    sl (x1 + 1) fun v8 =>
    fX6_firstShown_L2 n XM fu v8) else (
    some x1))
def fX6_firstShown (n : Nat) (XM : DM)  : Option (Int32) :=
fX6_firstShown_L2 n XM n 0
def fX6_becomes (XM : DM) (p1 : Int32) : Option (DM) :=
bnd (wrA 348 (XM 0) 301 p1) fun f1 =>
sl (va_up XM 0 f1) fun X4 =>
sl (fun (x1 : Int32) (k1 : Int32) (k2 : Int32) (XM : DM) =>
bnd (wrA 348 (XM 0) k1 k2) fun f6 =>
sl (va_up XM 0 f6) fun X9 =>
if x1 = (-1) then (
some X9) else (
bnd (rdA 348 (X9 0) 340) fun v12 =>
sl (fun (x1 : Int32) (XM : DM) =>
bnd (rdA 348 (XM 0) 340) fun v15 =>
bnd (wrA 348 (XM 0) (341 + v15) x1) fun f18 =>
sl (va_up XM 0 f18) fun X21 =>
bnd (rdA 348 (X21 0) 340) fun v23 =>
bnd (wrA 348 (X21 0) 340 (v23 + 1)) fun f26 =>
sl (va_up X21 0 f26) fun X29 =>
some X29) fun j93 =>
if v12 = 3 then (
bnd (rdA 348 (X9 0) 342) fun v32 =>
bnd (wrA 348 (X9 0) 341 v32) fun f35 =>
sl (va_up X9 0 f35) fun X38 =>
bnd (rdA 348 (X38 0) 343) fun v40 =>
bnd (wrA 348 (X38 0) 342 v40) fun f43 =>
sl (va_up X38 0 f43) fun X46 =>
bnd (rdA 348 (X46 0) 340) fun v48 =>
bnd (wrA 348 (X46 0) 340 (v48 - 1)) fun f51 =>
sl (va_up X46 0 f51) fun X54 =>
j93 x1 X54) else (
j93 x1 X9))) fun j30 =>
if p1 = (-1) then (
j30 p1 302 0 X4) else (
bnd (fX6_timeOf X4 p1) fun r57 =>
j30 p1 302 r57 X4)
def fX6_goesWell_L54 (n : Nat) (k113_ : Int32 → Int32 → Int32 → Int32 → DM → Option (DM)) : Nat → Int32 → Int32 → Int32 → Int32 → Int32 → DM → Option (DM)
  | 0, _, _, _, _, _, _ => none
  | fu + 1, x1, x2, x3, x4, x5, XM =>
    if x1 < x5 then (
    k113_ x1 x2 x3 x4 XM) else (
    sl (fun (x1 : Int32) (x2 : Int32) (x3 : Int32) (x5 : Int32) (k0 : Int32) (XM : DM) =>
    sl (x5 + 1) fun v28 =>
    fX6_goesWell_L54 n k113_ fu x1 x2 x3 k0 v28 XM) fun j105 =>
    sl (fun (x1 : Int32) (x2 : Int32) (x3 : Int32) (x5 : Int32) (XM : DM) =>
    j105 x1 x2 x3 x5 1 XM) fun j100 =>
    if x4 = 0 then (
    bnd (rdA 151 (XM 17) x5) fun v31 =>
    bnd (rdA 151 (XM 17) x1) fun v34 =>
    sl (fun (x1 : Int32) (x2 : Int32) (x3 : Int32) (x5 : Int32) (XM : DM) =>
    j105 x1 x2 x3 x5 0 XM) fun j104 =>
    if v31 = v34 then (
    bnd (fX6_isShown XM x5) fun r38 =>
    if r38 = 0 then (
    j104 x1 x2 x3 x5 XM) else (
    bnd (fX6_classOf XM x5) fun r44 =>
    if r44 = x3 then (
    j100 x1 x2 x3 x5 XM) else (
    j104 x1 x2 x3 x5 XM))) else (
    j104 x1 x2 x3 x5 XM)) else (
    j100 x1 x2 x3 x5 XM))
def fX6_goesWell_L28 (n : Nat)  : Nat → Int32 → Int32 → Int32 → DM → Option (DM)
  | 0, _, _, _, _ => none
  | fu + 1, x1, x2, x3, XM =>
    if 3 ≤ x3 then (
    some XM) else (
    if x2 = 0 then (
    some XM) else (
    bnd (rdA 348 (XM 0) 344) fun v6 =>
    if v6 = 0 then (
    sl (fun (x1 : Int32) (x2 : Int32) (x3 : Int32) (x4 : Int32) (XM : DM) =>
    bnd (rdA 348 (XM 0) (330 + x3)) fun v10 =>
    sl (fun (x1 : Int32) (x2 : Int32) (x3 : Int32) (k0 : Int32) (k1 : Int32) (XM : DM) =>
    sl (k0 + k1) fun v13 =>
    sl (fun (x1 : Int32) (x2 : Int32) (x3 : Int32) (k1 : Int32) (k2 : Int32) (XM : DM) =>
    bnd (wrA 348 (XM 0) k1 k2) fun f15 =>
    sl (va_up XM 0 f15) fun X18 =>
    sl (x3 + 1) fun v20 =>
    fX6_goesWell_L28 n fu x1 x2 v20 X18) fun j168 =>
    if v13 ≤ 400 then (
    j168 x1 x2 x3 (330 + x3) v13 XM) else (
    j168 x1 x2 x3 (330 + x3) 400 XM)) fun j140 =>
    if x4 = 0 then (
    j140 x1 x2 x3 v10 0 XM) else (
    bnd (rdA 348 (XM 0) 339) fun v24 =>
    j140 x1 x2 x3 v10 v24 XM)) fun j113 =>
    fX6_goesWell_L54 n j113 n x1 x2 x3 0 0 XM) else (
    some XM)))
def fX6_goesWell (n : Nat) (XM : DM) (p1 : Int32) : Option (DM) :=
bnd (rdA 151 (XM 15) p1) fun v1 =>
sl (fun (x1 : Int32) (k0 : Int32) (XM : DM) =>
fX6_goesWell_L28 n n x1 k0 0 XM) fun j25 =>
sl (fun (x1 : Int32) (XM : DM) =>
j25 x1 1 XM) fun j20 =>
if 1 < v1 then (
j20 p1 XM) else (
if p1 = ((XM 9 0) - 1) then (
j20 p1 XM) else (
j25 p1 0 XM))
def fX6_goesOn_L31 (n : Nat) (k58_ : Int32 → Int32 → DM → Option (DM)) : Nat → Int32 → Int32 → DM → Option (DM)
  | 0, _, _, _ => none
  | fu + 1, x1, x2, XM =>
    if (XM 9 0) ≤ x1 then (
    k58_ x1 x2 XM) else (
    bnd (fX6_isShown XM x1) fun r33 =>
    if r33 = 0 then (
    bnd (fX6_goesWell n XM x1) fun X39 =>
    sl (x1 + 1) fun v41 =>
    fX6_goesOn_L31 n k58_ fu v41 x2 X39) else (
    k58_ x1 x2 XM))
def fX6_goesOn (n : Nat) (XM : DM)  : Option (DM) :=
bnd (rdA 348 (XM 0) 301) fun v1 =>
bnd (rdA 348 (XM 0) 346) fun v4 =>
bnd (wrA 348 (XM 0) 346 (v4 + 1)) fun f7 =>
sl (va_up XM 0 f7) fun X10 =>
bnd (fX6_goesWell n X10 v1) fun X12 =>
sl (v1 + 1) fun v14 =>
sl (fun (x1 : Int32) (x2 : Int32) (XM : DM) =>
sl (fun (x1 : Int32) (XM : DM) =>
sl (fun (k1 : Int32) (XM : DM) =>
bnd (fX6_becomes XM k1) fun X16 =>
some X16) fun j104 =>
if (XM 9 0) ≤ x1 then (
j104 (-1) XM) else (
j104 x1 XM)) fun j90 =>
if (XM 9 0) ≤ x1 then (
j90 x1 XM) else (
bnd (rdA 151 (XM 17) x1) fun v20 =>
bnd (rdA 151 (XM 17) x2) fun v23 =>
if v20 = v23 then (
j90 x1 XM) else (
bnd (wrA 348 (XM 0) 344 0) fun f27 =>
sl (va_up XM 0 f27) fun X30 =>
j90 x1 X30))) fun j58 =>
fX6_goesOn_L31 n j58 n v14 v1 X12
def fX6_goes_L4 (n : Nat)  : Nat → Int32 → Int32 → DM → Option (Int32 × DM)
  | 0, _, _, _ => none
  | fu + 1, x2, x3, XM =>
    if x2 ≤ 0 then (
    some (x3, XM)) else (
    bnd (rdA 348 (XM 0) 301) fun v2 =>
    if v2 = (-1) then (
    some (x3, XM)) else (
    bnd (rdA 348 (XM 0) 302) fun v6 =>
    sl (fun (x2 : Int32) (x3 : Int32) (k0 : Int32) (XM : DM) =>
    sl (x2 - k0) fun v9 =>
    bnd (rdA 348 (XM 0) 302) fun v11 =>
    bnd (wrA 348 (XM 0) 302 (v11 - k0)) fun f14 =>
    sl (va_up XM 0 f14) fun X17 =>
    bnd (rdA 348 (X17 0) 345) fun v19 =>
    bnd (wrA 348 (X17 0) 345 (v19 + k0)) fun f22 =>
    sl (va_up X17 0 f22) fun X25 =>
    bnd (rdA 348 (X25 0) 302) fun v27 =>
    sl (fun (x2 : Int32) (x3 : Int32) (XM : DM) =>
    fX6_goes_L4 n fu x2 x3 XM) fun j95 =>
    if v27 = 0 then (
    bnd (fX6_goesOn n X25) fun X31 =>
    sl (x3 + 1) fun v33 =>
    j95 v9 v33 X31) else (
    j95 v9 x3 X25)) fun j44 =>
    if v6 ≤ x2 then (
    bnd (rdA 348 (XM 0) 302) fun v36 =>
    j44 x2 x3 v36 XM) else (
    j44 x2 x3 x2 XM)))
def fX6_goes (n : Nat) (XM : DM) (p1 : Int32) : Option (Int32 × DM) :=
fX6_goes_L4 n n p1 0 XM
def fX6_alters_L43 (n : Nat) (k122_ : Int32 → DM → Option (DM)) : Nat → Int32 → Int32 → DM → Option (DM)
  | 0, _, _, _ => none
  | fu + 1, x1, x2, XM =>
    bnd (rdA 348 (XM 0) 309) fun v30 =>
    if v30 ≤ x2 then (
    k122_ x1 XM) else (
    bnd (rdA 348 (XM 0) (310 + x2)) fun v34 =>
    sl (fun (x1 : Int32) (x2 : Int32) (XM : DM) =>
    sl (x2 + 1) fun v37 =>
    fX6_alters_L43 n k122_ fu x1 v37 XM) fun j116 =>
    if (XM 9 0) ≤ v34 then (
    j116 x1 x2 XM) else (
    bnd (fX6_isShown XM v34) fun r40 =>
    if r40 = 0 then (
    j116 x1 x2 XM) else (
    bnd (wrA 348 (XM 0) (310 + x1) v34) fun f46 =>
    sl (va_up XM 0 f46) fun X49 =>
    bnd (rdA 348 (X49 0) (320 + x2)) fun v51 =>
    bnd (wrA 348 (X49 0) (320 + x1) v51) fun f54 =>
    sl (va_up X49 0 f54) fun X57 =>
    sl (x1 + 1) fun v59 =>
    j116 v59 x2 X57)))
def fX6_alters (n : Nat) (XM : DM)  : Option (DM) :=
bnd (fX6_parses n XM) fun X1 =>
bnd (wrA 348 (X1 0) 303 0) fun f3 =>
sl (va_up X1 0 f3) fun X6 =>
bnd (wrA 348 (X6 0) 344 0) fun f8 =>
sl (va_up X6 0 f8) fun X11 =>
bnd (wrA 348 (X11 0) 340 0) fun f13 =>
sl (va_up X11 0 f13) fun X16 =>
bnd (fX6_firstShown n X16) fun r18 =>
bnd (fX6_becomes X16 r18) fun X23 =>
sl (fun (x1 : Int32) (XM : DM) =>
bnd (wrA 348 (XM 0) 309 x1) fun f25 =>
sl (va_up XM 0 f25) fun X28 =>
some X28) fun j122 =>
fX6_alters_L43 n j122 n 0 0 X23
def fX6_append (n : Nat) (XM : DM) (p1 : Int32) : Option (Int32 × DM) :=
bnd (fX6_in p1 32 126) fun r1 =>
if r1 = 0 then (
some ((-1), XM)) else (
bnd (rdA 348 (XM 0) 0) fun v7 =>
if v7 = 300 then (
some ((-3), XM)) else (
bnd (fX6_records n XM) fun X11 =>
bnd (rdA 348 (X11 0) 0) fun v13 =>
bnd (wrA 348 (X11 0) (1 + v13) p1) fun f16 =>
sl (va_up X11 0 f16) fun X19 =>
bnd (rdA 348 (X19 0) 0) fun v21 =>
bnd (wrA 348 (X19 0) 0 (v21 + 1)) fun f24 =>
sl (va_up X19 0 f24) fun X27 =>
bnd (fX6_alters n X27) fun X29 =>
some ((X29 9 0), X29)))
def fX6_cut (n : Nat) (XM : DM) (p1 : Int32) : Option (Int32 × DM) :=
bnd (fX6_in p1 1 300) fun r1 =>
if r1 = 0 then (
some ((-1), XM)) else (
bnd (rdA 348 (XM 0) 0) fun v7 =>
if p1 ≤ v7 then (
bnd (fX6_records n XM) fun X11 =>
bnd (rdA 348 (X11 0) 0) fun v13 =>
bnd (wrA 348 (X11 0) 0 (v13 - p1)) fun f16 =>
sl (va_up X11 0 f16) fun X19 =>
bnd (fX6_alters n X19) fun X21 =>
bnd (rdA 348 (X21 0) 0) fun v23 =>
some (v23, X21)) else (
some ((-2), XM)))
def fX6_noteOf_L2 (n : Nat) (XM : DM)  : Nat → Int32 → Int32 → Option (Int32)
  | 0, _, _ => none
  | fu + 1, x1, x2 =>
    bnd (rdA 348 (XM 0) 309) fun v1 =>
    if v1 ≤ x2 then (
    some (-1)) else (
    bnd (rdA 348 (XM 0) (310 + x2)) fun v5 =>
    if v5 = x1 then (
    some x2) else (
    sl (x2 + 1) fun v9 =>
    fX6_noteOf_L2 n XM fu x1 v9))
def fX6_noteOf (n : Nat) (XM : DM) (p1 : Int32) : Option (Int32) :=
fX6_noteOf_L2 n XM n p1 0
def fX6_spotOf_L13 (n : Nat) (XM : DM)  : Nat → Int32 → Int32 → Int32 → Option (Int32)
  | 0, _, _, _ => none
  | fu + 1, x1, x2, x3 =>
    bnd (rdA 151 (XM 13) x1) fun v7 =>
    if v7 ≤ x3 then (
    some (-1)) else (
    bnd (rdA 151 (XM 14) x1) fun v11 =>
    if v11 ≤ 0 then (
    some (-1)) else (
    bnd (rdA 151 (XM 12) x1) fun v15 =>
    bnd (rdA 348 (XM 0) ((1 + v15) + x3)) fun v18 =>
    bnd (fX6_isLetter v18) fun r21 =>
    sl (fun (x1 : Int32) (x2 : Int32) (x3 : Int32) =>
    sl (x3 + 1) fun v26 =>
    fX6_spotOf_L13 n XM fu x1 x2 v26) fun j62 =>
    if r21 = 0 then (
    j62 x1 x2 x3) else (
    if x2 = 0 then (
    some x3) else (
    sl (x2 + (-1)) fun v30 =>
    j62 x1 v30 x3))))
def fX6_spotOf (n : Nat) (XM : DM) (p1 : Int32) : Option (Int32) :=
bnd (rdA 151 (XM 14) p1) fun v1 =>
bnd (dvA (v1 - 1) 3) fun v4 =>
fX6_spotOf_L13 n XM n p1 v4 0
