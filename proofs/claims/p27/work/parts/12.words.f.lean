def fX4_has (XW : DM) (p1 : Int32) : Option (Int32) :=
if p1 < 0 then (
some 0) else (
if (XW 8 0) ≤ p1 then (
some 0) else (
some 1))
def fX4_isMark (XW : DM) (p1 : Int32) : Option (Int32) :=
bnd (fX5_at 150 (XW 3) p1) fun r1 =>
if r1 = 3 then (
some 1) else (
some 0)
def fX4_classOf (XW : DM) (p1 : Int32) : Option (Int32) :=
bnd (fX5_at 150 (XW 2) p1) fun r1 =>
if 4 < r1 then (
if 8 < r1 then (
some 2) else (
some 1)) else (
some 0)
def fX4_shownAmong_L5 (n : Nat) (XW : DM)  : Nat → Int32 → Int32 → Int32 → Option (Int32)
  | 0, _, _, _ => none
  | fu + 1, x2, x3, x4 =>
    if x2 < x4 then (
    some x3) else (
    bnd (fX4_isMark XW x4) fun r2 =>
    sl (fun (x2 : Int32) (x3 : Int32) (x4 : Int32) =>
    sl (x4 + 1) fun v7 =>
    fX4_shownAmong_L5 n XW fu x2 x3 v7) fun j23 =>
    if r2 = 0 then (
    sl (x3 + 1) fun v10 =>
    j23 x2 v10 x4) else (
    j23 x2 x3 x4))
def fX4_shownAmong (n : Nat) (XW : DM) (p1 p2 : Int32) : Option (Int32) :=
fX4_shownAmong_L5 n XW n p2 0 p1
def fX4_sentencesAmong (XW : DM) (XP : DM) (p1 p2 : Int32) : Option (Int32) :=
bnd (fX5_at 150 (XP 2) p2) fun r1 =>
bnd (fX5_at 150 (XP 2) p1) fun r6 =>
some ((r1 - r6) + 1)
def fX4_hasClassAmong_L3 (n : Nat) (XW : DM)  : Nat → Int32 → Int32 → Int32 → Option (Int32)
  | 0, _, _, _ => none
  | fu + 1, x1, x3, x4 =>
    if x3 < x4 then (
    some 0) else (
    bnd (fX4_isMark XW x4) fun r2 =>
    sl (fun (x1 : Int32) (x3 : Int32) (x4 : Int32) =>
    sl (x4 + 1) fun v7 =>
    fX4_hasClassAmong_L3 n XW fu x1 x3 v7) fun j30 =>
    if r2 = 0 then (
    bnd (fX4_classOf XW x4) fun r10 =>
    if r10 = x1 then (
    some 1) else (
    j30 x1 x3 x4)) else (
    j30 x1 x3 x4))
def fX4_hasClassAmong (n : Nat) (XW : DM) (p1 p2 p3 : Int32) : Option (Int32) :=
fX4_hasClassAmong_L3 n XW n p1 p3 p2
def fX4_shownBehind_L4 (n : Nat) (XW : DM)  : Nat → Int32 → Option (Int32)
  | 0, _ => none
  | fu + 1, x2 =>
    if (XW 8 0) ≤ x2 then (
    some (-1)) else (
    bnd (fX4_isMark XW x2) fun r4 =>
    if r4 = 0 then (
    some x2) else (
    sl (x2 + 1) fun v10 =>
    fX4_shownBehind_L4 n XW fu v10))
def fX4_shownBehind (n : Nat) (XW : DM) (p1 : Int32) : Option (Int32) :=
sl (p1 + 1) fun v1 =>
fX4_shownBehind_L4 n XW n v1
def fX4_endsAheadOf (XW : DM) (XP : DM) (p1 p2 : Int32) : Option (Int32) :=
if p1 = (-1) then (
some 1) else (
bnd (fX5_at 150 (XP 2) p1) fun r2 =>
bnd (fX5_at 150 (XP 2) p2) fun r7 =>
if r2 = r7 then (
some 0) else (
some 1))
def fX4_firstBeforeSentence_L4 (n : Nat) (XW : DM) (XP : DM)  : Nat → Int32 → Option (Int32)
  | 0, _ => none
  | fu + 1, x2 =>
    if x2 < 0 then (
    some (-1)) else (
    bnd (fX5_at 150 (XP 0) x2) fun r4 =>
    bnd (fX4_isMark XW r4) fun r9 =>
    if r9 = 0 then (
    some r4) else (
    sl (x2 + (-1)) fun v15 =>
    fX4_firstBeforeSentence_L4 n XW XP fu v15))
def fX4_firstBeforeSentence (n : Nat) (XW : DM) (XP : DM) (p1 : Int32) : Option (Int32) :=
sl (p1 - 1) fun v1 =>
fX4_firstBeforeSentence_L4 n XW XP n v1
def fX4_letterIn_L6 (n : Nat) (N1 : Nat) (fr1 : (Nat → Int32)) (k31_ : Int32 → Int32 → Option (Int32)) : Nat → Int32 → Int32 → Int32 → Int32 → Int32 → Option (Int32)
  | 0, _, _, _, _, _ => none
  | fu + 1, x2, x3, x4, x5, x6 =>
    if x3 ≤ x6 then (
    some (-1)) else (
    bnd (fX5_at N1 fr1 x6) fun r2 =>
    bnd (fX5_isLetter r2) fun r7 =>
    sl (fun (x2 : Int32) (x3 : Int32) (x4 : Int32) (x5 : Int32) (x6 : Int32) =>
    sl (x6 + 1) fun v12 =>
    fX4_letterIn_L6 n N1 fr1 k31_ fu x2 x3 x4 x5 v12) fun j39 =>
    if r7 = 0 then (
    j39 x2 x3 x4 x5 x6) else (
    if x5 = x4 then (
    k31_ x2 x6) else (
    sl (x5 + 1) fun v16 =>
    j39 x2 x3 x4 v16 x6)))
def fX4_letterIn (n : Nat) (N1 : Nat) (fr1 : (Nat → Int32)) (p2 p3 p4 : Int32) : Option (Int32) :=
sl (fun (x2 : Int32) (x6 : Int32) =>
some (x6 - x2)) fun j31 =>
fX4_letterIn_L6 n N1 fr1 j31 n p2 p3 p4 0 p2
def fX4_add_L12 (n : Nat) (N1 : Nat) (fr1 : (Nat → Int32)) (k66_ : Int32 → Int32 → Int32 → Int32 → Int32 → DM → Option (DM)) : Nat → Int32 → Int32 → Int32 → Int32 → Int32 → Int32 → DM → Option (DM)
  | 0, _, _, _, _, _, _, _ => none
  | fu + 1, x2, x3, x4, x5, x6, x7, XW =>
    if x3 ≤ x7 then (
    k66_ x2 x3 x4 x5 x6 XW) else (
    bnd (fX5_at N1 fr1 x7) fun r45 =>
    bnd (fX5_isLetter r45) fun r50 =>
    sl (fun (x2 : Int32) (x3 : Int32) (x4 : Int32) (x5 : Int32) (x6 : Int32) (x7 : Int32) (x8 : Int32) (XW : DM) =>
    bnd (fX5_isFigure x8) fun r55 =>
    sl (fun (x2 : Int32) (x3 : Int32) (x4 : Int32) (x5 : Int32) (x6 : Int32) (x7 : Int32) (x8 : Int32) (XW : DM) =>
    bnd (fX5_isTrailing x8) fun r60 =>
    sl (fun (x2 : Int32) (x3 : Int32) (x4 : Int32) (x5 : Int32) (x6 : Int32) (x7 : Int32) (XW : DM) =>
    sl (x7 + 1) fun v65 =>
    fX4_add_L12 n N1 fr1 k66_ fu x2 x3 x4 x5 x6 v65 XW) fun j60 =>
    if r60 = 0 then (
    j60 x2 x3 x4 x5 x8 x7 XW) else (
    j60 x2 x3 x4 x5 x6 x7 XW)) fun j48 =>
    if r55 = 0 then (
    j48 x2 x3 x4 x5 x6 x7 x8 XW) else (
    j48 x2 x3 x4 1 x6 x7 x8 XW)) fun j37 =>
    if r50 = 0 then (
    j37 x2 x3 x4 x5 x6 x7 r45 XW) else (
    sl (x4 + 1) fun v70 =>
    j37 x2 x3 v70 x5 x6 x7 r45 XW))
def fX4_add (n : Nat) (N1 : Nat) (fr1 : (Nat → Int32)) (XW : DM) (p2 p3 : Int32) : Option (DM) :=
sl (fun (x2 : Int32) (x3 : Int32) (x4 : Int32) (x5 : Int32) (x6 : Int32) (XW : DM) =>
sl (fun (x2 : Int32) (x3 : Int32) (x4 : Int32) (x5 : Int32) (x6 : Int32) (k0 : Int32) (XW : DM) =>
bnd (fX5_put 150 (XW 0) (XW 8 0) x2) fun f1 =>
sl (va_up XW 0 f1) fun X3 =>
bnd (fX5_put 150 (X3 1) (X3 8 0) (x3 - x2)) fun f5 =>
sl (va_up X3 1 f5) fun X7 =>
bnd (fX5_put 150 (X7 2) (X7 8 0) x4) fun f9 =>
sl (va_up X7 2 f9) fun X11 =>
sl (fun (x2 : Int32) (x3 : Int32) (x4 : Int32) (x5 : Int32) (k1 : Int32) (k2 : Int32) (XW : DM) =>
bnd (fX5_put 150 (XW 3) k1 k2) fun f13 =>
sl (va_up XW 3 f13) fun X15 =>
bnd (fX5_put 150 (X15 4) (X15 8 0) x5) fun f17 =>
sl (va_up X15 4 f17) fun X19 =>
sl (fun (k1 : Int32) (k2 : Int32) (XW : DM) =>
bnd (fX5_put 150 (XW 5) k1 k2) fun f21 =>
sl (va_up XW 5 f21) fun X23 =>
sl (va_up X23 8 (fun _ => ((X23 8 0) + 1))) fun X25 =>
some X25) fun j194 =>
if x4 = 0 then (
j194 (X19 8 0) (-1) X19) else (
bnd (dvA (x4 - 1) 3) fun v28 =>
bnd (fX4_letterIn n N1 fr1 x2 x3 v28) fun r31 =>
j194 (X19 8 0) r31 X19)) fun j148 =>
if k0 = 0 then (
bnd (fX5_closingBy x6) fun r37 =>
j148 x2 x3 x4 x5 (X11 8 0) r37 X11) else (
j148 x2 x3 x4 x5 (X11 8 0) 3 X11)) fun j85 =>
sl (fun (x2 : Int32) (x3 : Int32) (x4 : Int32) (x5 : Int32) (x6 : Int32) (XW : DM) =>
j85 x2 x3 x4 x5 x6 0 XW) fun j84 =>
if (x3 - x2) = 1 then (
if x6 = 124 then (
j85 x2 x3 x4 x5 x6 1 XW) else (
j84 x2 x3 x4 x5 x6 XW)) else (
j84 x2 x3 x4 x5 x6 XW)) fun j66 =>
fX4_add_L12 n N1 fr1 j66 n p2 p3 0 0 (-1) p2 XW
def fX4_number_L18 (n : Nat) (XW : DM)  : Nat → Int32 → Int32 → DM → DM → Option (DM × DM)
  | 0, _, _, _, _ => none
  | fu + 1, x1, x2, XP, XQ =>
    if (XW 8 0) ≤ x2 then (
    some (XP, XQ)) else (
    sl (fun (x1 : Int32) (x2 : Int32) (k1 : Int32) (k2 : Int32) (XP : DM) (XQ : DM) =>
    bnd (fX2_add XP k1 k2) fun X6 =>
    sl (fun (x2 : Int32) (k1 : Int32) (k2 : Int32) (XP : DM) (XQ : DM) =>
    bnd (fX2_add XQ k1 k2) fun X8 =>
    bnd (fX5_at 150 (XW 3) x2) fun r10 =>
    sl (x2 + 1) fun v15 =>
    fX4_number_L18 n XW fu r10 v15 XP X8) fun j64 =>
    if x1 = 3 then (
    j64 x2 x2 1 X6 XQ) else (
    j64 x2 x2 0 X6 XQ)) fun j46 =>
    sl (fun (x1 : Int32) (x2 : Int32) (k1 : Int32) (XP : DM) (XQ : DM) =>
    j46 x1 x2 k1 1 XP XQ) fun j41 =>
    if x1 = 2 then (
    j41 x1 x2 x2 XP XQ) else (
    if x1 = 3 then (
    j41 x1 x2 x2 XP XQ) else (
    j46 x1 x2 x2 0 XP XQ)))
def fX4_number (n : Nat) (XW : DM) (XP : DM) (XQ : DM)  : Option (DM × DM) :=
bnd (fX2_clear XP) fun X1 =>
bnd (fX2_clear XQ) fun X3 =>
fX4_number_L18 n XW n 3 0 X1 X3
def fX4_read_L10 (n : Nat) (N1 : Nat) (fr1 : (Nat → Int32)) (k58_ : DM → DM → DM → Option (DM × DM × DM)) : Nat → Int32 → Int32 → Int32 → DM → DM → DM → Option (DM × DM × DM)
  | 0, _, _, _, _, _, _ => none
  | fu + 1, x2, x3, x4, XW, XP, XQ =>
    if x2 < x4 then (
    k58_ XW XP XQ) else (
    sl (fun (x2 : Int32) (x3 : Int32) (x4 : Int32) (XW : DM) (XP : DM) (XQ : DM) =>
    sl (x4 + 1) fun v8 =>
    fX4_read_L10 n N1 fr1 k58_ fu x2 x3 v8 XW XP XQ) fun j52 =>
    sl (fun (x2 : Int32) (x3 : Int32) (x4 : Int32) (XW : DM) (XP : DM) (XQ : DM) =>
    sl (fun (x2 : Int32) (x4 : Int32) (XW : DM) (XP : DM) (XQ : DM) =>
    sl (x4 + 1) fun v10 =>
    j52 x2 v10 x4 XW XP XQ) fun j47 =>
    if x4 ≤ x3 then (
    j47 x2 x4 XW XP XQ) else (
    bnd (fX4_add n N1 fr1 XW x3 x4) fun X13 =>
    j47 x2 x4 X13 XP XQ)) fun j33 =>
    if x4 = x2 then (
    j33 x2 x3 x4 XW XP XQ) else (
    bnd (fX5_at N1 fr1 x4) fun r16 =>
    if r16 = 32 then (
    j33 x2 x3 x4 XW XP XQ) else (
    j52 x2 x3 x4 XW XP XQ)))
def fX4_read (n : Nat) (N1 : Nat) (fr1 : (Nat → Int32)) (XW : DM) (XP : DM) (XQ : DM) (p2 : Int32) : Option (DM × DM × DM) :=
sl (va_up XW 8 (fun _ => 0)) fun X1 =>
sl (fun (XW : DM) (XP : DM) (XQ : DM) =>
bnd (fX4_number n XW XP XQ) fun u6 =>
some (XW, u6.1, u6.2)) fun j58 =>
fX4_read_L10 n N1 fr1 j58 n p2 0 0 X1 XP XQ
