def fX5_isCharacter  (p0 : Int32) : Option (Int32) :=
if p0 < 32 then (
some 0) else (
if 126 < p0 then (
some 0) else (
some 1))
def fX5_isFigure  (p0 : Int32) : Option (Int32) :=
if p0 < 48 then (
some 0) else (
if 57 < p0 then (
some 0) else (
some 1))
def fX5_isLetter  (p0 : Int32) : Option (Int32) :=
sl (fun (x0 : Int32) =>
sl (fun (x0 : Int32) =>
bnd (fX5_isFigure x0) fun r1 =>
if r1 = 0 then (
some 0) else (
some 1)) fun j24 =>
if x0 < 65 then (
j24 x0) else (
if x0 ≤ 90 then (
some 1) else (
j24 x0))) fun j12 =>
if p0 < 97 then (
j12 p0) else (
if p0 ≤ 122 then (
some 1) else (
j12 p0))
def fX5_isTrailing  (p0 : Int32) : Option (Int32) :=
if p0 = 41 then (
some 1) else (
if p0 = 93 then (
some 1) else (
if p0 = 34 then (
some 1) else (
if p0 = 39 then (
some 1) else (
some 0))))
def fX5_closingBy  (p0 : Int32) : Option (Int32) :=
if p0 = 33 then (
some 2) else if p0 = 44 then (
some 1) else if p0 = 46 then (
some 2) else if p0 = 58 then (
some 1) else if p0 = 59 then (
some 1) else if p0 = 63 then (
some 2) else (
some 0)
def fX5_at (N1 : Nat) (fr1 : (Nat → Int32)) (p1 : Int32) : Option (Int32) :=
if p1 < 0 then (
some 0) else (
if (nI N1) ≤ p1 then (
some 0) else (
bnd (rdA N1 fr1 p1) fun v3 =>
some v3))
def fX5_put (N1 : Nat) (fr1 : (Nat → Int32)) (p1 p2 : Int32) : Option ((Nat → Int32)) :=
if p1 < 0 then (
some fr1) else (
if (nI N1) ≤ p1 then (
some fr1) else (
bnd (wrA N1 fr1 p1 p2) fun f3 =>
some f3))
def fX5_fill_L2 (n : Nat) (N1 : Nat)  : Nat → Int32 → Int32 → (Nat → Int32) → Option ((Nat → Int32))
  | 0, _, _, _ => none
  | fu + 1, x1, x2, fr1 =>
    if (nI N1) ≤ x2 then (
    some fr1) else (
    bnd (wrA N1 fr1 x2 x1) fun f2 =>
    sl (x2 + 1) fun v5 =>
    fX5_fill_L2 n N1 fu x1 v5 f2)
def fX5_fill (n : Nat) (N1 : Nat) (fr1 : (Nat → Int32)) (p1 : Int32) : Option ((Nat → Int32)) :=
fX5_fill_L2 n N1 n p1 0 fr1
def fX5_copyRow (N1 : Nat) (fr1 : (Nat → Int32)) (N2 : Nat) (fr2 : (Nat → Int32))  : Option ((Nat → Int32)) :=
sl (if (nI N2) < (nI N1) then (nI N2) else (nI N1)) fun v1 =>
bnd (cpA N1 N2 fr1 fr2 0 0 v1) fun f8 =>
some f8
def fX2_has (XP : DM) (p1 : Int32) : Option (Int32) :=
if p1 < 0 then (
some 0) else (
if (XP 3 0) ≤ p1 then (
some 0) else (
some 1))
def fX2_clear (XP : DM)  : Option (DM) :=
sl (va_up XP 3 (fun _ => 0)) fun X1 =>
some X1
def fX2_add (XP : DM) (p1 p2 : Int32) : Option (DM) :=
sl (fun (x1 : Int32) (XP : DM) =>
bnd (fX5_put 150 (XP 1) ((XP 3 0) - 1) x1) fun f1 =>
sl (va_up XP 1 f1) fun X3 =>
bnd (fX5_put 150 (X3 2) x1 ((X3 3 0) - 1)) fun f5 =>
sl (va_up X3 2 f5) fun X7 =>
some X7) fun j26 =>
if p2 = 0 then (
j26 p1 XP) else (
bnd (fX5_put 150 (XP 0) (XP 3 0) p1) fun f10 =>
sl (va_up XP 0 f10) fun X12 =>
sl (va_up X12 3 (fun _ => ((X12 3 0) + 1))) fun X14 =>
j26 p1 X14)
