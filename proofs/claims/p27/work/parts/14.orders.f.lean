def fX1_add (XO : DM) (p1 : Int32) : Option (DM) :=
bnd (fX5_put 60 (XO 0) (XO 1 0) p1) fun f1 =>
sl (va_up XO 0 f1) fun X3 =>
sl (va_up X3 1 (fun _ => ((X3 1 0) + 1))) fun X5 =>
some X5
def fX1_characterAt (XO : DM) (p1 : Int32) : Option (Int32) :=
if (XO 1 0) ≤ p1 then (
some 0) else (
bnd (fX5_at 60 (XO 0) p1) fun r2 =>
some r2)
def fX1_digitsBehind_L2 (n : Nat) (XO : DM)  : Nat → Int32 → Int32 → Option (Int32)
  | 0, _, _ => none
  | fu + 1, x1, x2 =>
    if 3 ≤ x2 then (
    some x2) else (
    bnd (fX1_characterAt XO ((x1 + 1) + x2)) fun r2 =>
    bnd (fX5_isFigure r2) fun r7 =>
    if r7 = 0 then (
    some x2) else (
    sl (x2 + 1) fun v13 =>
    fX1_digitsBehind_L2 n XO fu x1 v13))
def fX1_digitsBehind (n : Nat) (XO : DM) (p1 : Int32) : Option (Int32) :=
fX1_digitsBehind_L2 n XO n p1 0
def fX1_numberBehind_L11 (n : Nat) (XO : DM)  : Nat → Int32 → Int32 → Int32 → Int32 → Option (Int32)
  | 0, _, _, _, _ => none
  | fu + 1, x1, x2, x3, x4 =>
    if x2 < x4 then (
    some x3) else (
    bnd (fX1_characterAt XO (x1 + x4)) fun r7 =>
    sl (((x3 * 10) + r7) - 48) fun v12 =>
    sl (x4 + 1) fun v14 =>
    fX1_numberBehind_L11 n XO fu x1 x2 v12 v14)
def fX1_numberBehind (n : Nat) (XO : DM) (p1 : Int32) : Option (Int32) :=
bnd (fX1_digitsBehind n XO p1) fun r1 =>
fX1_numberBehind_L11 n XO n p1 r1 0 1
def fX1_isOrder  (p1 p2 p3 : Int32) : Option (Int32) :=
sl (fun (x1 : Int32) (x2 : Int32) (x3 : Int32) (k0 : Int32) =>
sl (fun (x2 : Int32) =>
if x2 = 0 then (
some 1) else (
some 0)) fun j64 =>
if x1 = 98 then (
j64 x2) else if x1 = 106 then (
bnd (zA k0) fun _ =>
some k0) else if x1 = 110 then (
if k0 = 0 then (
some 0) else (
if x3 < 1 then (
some 0) else (
if 99 < x3 then (
some 0) else (
some 1)))) else if x1 = 114 then (
if k0 = 0 then (
some 0) else (
if x3 < 1 then (
some 0) else (
some 1))) else if x1 = 117 then (
j64 x2) else (
some 0)) fun j9 =>
if p2 ≤ 0 then (
j9 p1 p2 p3 0) else (
j9 p1 p2 p3 1)
def fX1_endOf (n : Nat) (XO : DM) (p1 : Int32) : Option (Int32) :=
bnd (fX1_digitsBehind n XO p1) fun r1 =>
sl ((p1 + 1) + r1) fun v6 =>
bnd (fX1_characterAt XO v6) fun r8 =>
if r8 = 59 then (
bnd (fX1_characterAt XO p1) fun r14 =>
bnd (fX1_numberBehind n XO p1) fun r19 =>
bnd (fX1_isOrder r14 r1 r19) fun r24 =>
if r24 = 0 then (
some (-1)) else (
some (v6 + 1))) else (
some (-1))
def fX1_firstFault_L4 (n : Nat) (XO : DM)  : Nat → Int32 → Int32 → Option (Int32)
  | 0, _, _ => none
  | fu + 1, x1, x2 =>
    if 60 ≤ x2 then (
    some (-1)) else (
    if (XO 1 0) ≤ x1 then (
    some (-1)) else (
    bnd (fX1_endOf n XO x1) fun r3 =>
    if r3 = (-1) then (
    some x1) else (
    sl (x2 + 1) fun v9 =>
    fX1_firstFault_L4 n XO fu r3 v9)))
def fX1_firstFault (n : Nat) (XO : DM)  : Option (Int32) :=
fX1_firstFault_L4 n XO n 0 0
