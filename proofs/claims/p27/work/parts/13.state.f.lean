def fX3_copy (XS : DM) (XT : DM)  : Option (DM) :=
bnd (fX5_copyRow 300 (XT 1) 300 (XS 1)) fun f1 =>
sl (va_up XS 1 f1) fun X3 =>
sl (va_up X3 2 (fun _ => (XT 2 0))) fun X5 =>
bnd (fX5_copyRow 7 (XT 3) 7 (X5 3)) fun f7 =>
sl (va_up X5 3 f7) fun X9 =>
bnd (fX5_copyRow 3 (XT 4) 3 (X9 4)) fun f11 =>
sl (va_up X9 4 f11) fun X13 =>
bnd (fX5_copyRow 150 (XT 5) 150 (X13 5)) fun f15 =>
sl (va_up X13 5 f15) fun X17 =>
sl (va_up X17 6 (fun _ => (XT 6 0))) fun X19 =>
sl (va_up X19 7 (fun _ => (XT 7 0))) fun X21 =>
bnd (fX5_copyRow 5 (XT 8) 5 (X21 8)) fun f23 =>
sl (va_up X21 8 f23) fun X25 =>
sl (va_up X25 9 (fun _ => (XT 9 0))) fun X27 =>
bnd (fX5_copyRow 3 (XT 10) 3 (X27 10)) fun f29 =>
sl (va_up X27 10 f29) fun X31 =>
bnd (zA (XT 11 0)) fun _ =>
sl (va_up X31 11 (fun _ => (XT 11 0))) fun X34 =>
sl (va_up X34 12 (fun _ => (XT 12 0))) fun X36 =>
sl (va_up X36 13 (fun _ => (XT 13 0))) fun X38 =>
sl (va_up X38 14 (fun _ => (XT 14 0))) fun X40 =>
some X40
def fX3_measureOf (XS : DM) (XW : DM) (p1 : Int32) : Option (Int32) :=
bnd (fX5_at 150 (XW 2) p1) fun r1 =>
sl (fun (x2 : Int32) =>
bnd (fX5_at 7 (XS 3) 1) fun r6 =>
sl (if x2 < r6 then r6 else x2) fun v11 =>
some v11) fun j29 =>
if r1 ≤ 10 then (
j29 r1) else (
bnd (dvA ((r1 - 10) + 1) 2) fun v14 =>
sl (r1 - v14) fun v17 =>
j29 v17)
def fX3_percentOf (XS : DM) (XW : DM) (p1 : Int32) : Option (Int32) :=
bnd (fX5_at 150 (XW 3) p1) fun r1 =>
sl (fun (x1 : Int32) (x3 : Int32) =>
bnd (fX5_at 150 (XW 4) x1) fun r6 =>
if r6 = 1 then (
bnd (fX5_at 7 (XS 3) 4) fun r12 =>
bnd (dvA (x3 * r12) 100) fun v17 =>
some v17) else (
some x3)) fun j46 =>
if r1 = 1 then (
bnd (fX5_at 7 (XS 3) 2) fun r27 =>
j46 p1 r27) else (
if r1 = 2 then (
bnd (fX5_at 7 (XS 3) 3) fun r22 =>
j46 p1 r22) else (
j46 p1 100))
def fX3_timeWith (XS : DM) (XW : DM) (p1 p2 : Int32) : Option (Int32) :=
if p2 ≤ 0 then (
some 0) else (
bnd (fX4_isMark XW p1) fun r2 =>
if r2 = 0 then (
bnd (fX3_measureOf XS XW p1) fun r8 =>
bnd (fX5_at 7 (XS 3) 0) fun r13 =>
bnd (fX3_percentOf XS XW p1) fun r18 =>
sl ((r8 * r13) * r18) fun v23 =>
bnd (dvA ((v23 + p2) - 1) p2) fun v25 =>
some v25) else (
some 0))
def fX3_speedOf (XS : DM) (XW : DM) (p1 : Int32) : Option (Int32) :=
bnd (fX4_classOf XW p1) fun r1 =>
bnd (fX5_at 3 (XS 4) r1) fun r6 =>
some r6
def fX3_timeOf (XS : DM) (XW : DM) (p1 : Int32) : Option (Int32) :=
bnd (fX3_speedOf XS XW p1) fun r1 =>
bnd (fX3_timeWith XS XW p1 r1) fun r6 =>
some r6
def fX3_timeOfAll_L5 (n : Nat) (XS : DM) (XW : DM)  : Nat → Int32 → Int32 → Int32 → Option (Int32)
  | 0, _, _, _ => none
  | fu + 1, x2, x3, x4 =>
    if x2 < x4 then (
    some x3) else (
    bnd (fX3_timeOf XS XW x4) fun r2 =>
    sl (x3 + r2) fun v7 =>
    sl (x4 + 1) fun v9 =>
    fX3_timeOfAll_L5 n XS XW fu x2 v7 v9)
def fX3_timeOfAll (n : Nat) (XS : DM) (XW : DM) (p1 p2 : Int32) : Option (Int32) :=
fX3_timeOfAll_L5 n XS XW n p2 0 p1
def fX3_timeOfAllWith_L6 (n : Nat) (XS : DM) (XW : DM)  : Nat → Int32 → Int32 → Int32 → Int32 → Option (Int32)
  | 0, _, _, _, _ => none
  | fu + 1, x2, x3, x4, x5 =>
    if x2 < x5 then (
    some x4) else (
    bnd (fX3_timeWith XS XW x5 x3) fun r2 =>
    sl (x4 + r2) fun v7 =>
    sl (x5 + 1) fun v9 =>
    fX3_timeOfAllWith_L6 n XS XW fu x2 x3 v7 v9)
def fX3_timeOfAllWith (n : Nat) (XS : DM) (XW : DM) (p1 p2 p3 : Int32) : Option (Int32) :=
fX3_timeOfAllWith_L6 n XS XW n p2 p3 0 p1
def fX3_becomePresent_L49 (n : Nat) (XW : DM) (k73_ : Int32 → DM → Option (DM)) : Nat → Int32 → Int32 → DM → Option (DM)
  | 0, _, _, _ => none
  | fu + 1, x1, x2, XS =>
    if x2 ≤ 0 then (
    k73_ x1 XS) else (
    bnd (rdA 3 (XS 10) (x2 - 1)) fun v28 =>
    bnd (wrA 3 (XS 10) x2 v28) fun f31 =>
    sl (va_up XS 10 f31) fun X34 =>
    sl (x2 + (-1)) fun v36 =>
    fX3_becomePresent_L49 n XW k73_ fu x1 v36 X34)
def fX3_becomePresent (n : Nat) (XS : DM) (XW : DM) (p1 : Int32) : Option (DM) :=
bnd (fX4_has XW p1) fun r1 =>
if r1 = 0 then (
sl (va_up XS 6 (fun _ => (-1))) fun X38 =>
sl (va_up X38 7 (fun _ => 0)) fun X40 =>
some X40) else (
sl (va_up XS 6 (fun _ => p1)) fun X7 =>
bnd (fX3_speedOf X7 XW p1) fun r9 =>
bnd (fX3_timeWith X7 XW p1 r9) fun r14 =>
sl (va_up X7 7 (fun _ => r14)) fun X19 =>
sl (3 - 1) fun v21 =>
sl (fun (x1 : Int32) (XS : DM) =>
bnd (fX5_put 3 (XS 10) 0 x1) fun f23 =>
sl (va_up XS 10 f23) fun X25 =>
some X25) fun j73 =>
fX3_becomePresent_L49 n XW j73 n p1 v21 X19)
def fX3_startAnew_L40 (n : Nat) (k84_ : DM → DM → DM → DM → Option (DM × DM × DM × DM)) : Nat → Int32 → DM → DM → DM → DM → Option (DM × DM × DM × DM)
  | 0, _, _, _, _, _ => none
  | fu + 1, x2, XS, XW, XP, XQ =>
    if 150 ≤ x2 then (
    k84_ XS XW XP XQ) else (
    bnd (fX4_has XW x2) fun r24 =>
    sl (fun (x2 : Int32) (XS : DM) (XW : DM) (XP : DM) (XQ : DM) =>
    sl (x2 + 1) fun v29 =>
    fX3_startAnew_L40 n k84_ fu v29 XS XW XP XQ) fun j78 =>
    sl (fun (x2 : Int32) (XS : DM) (XW : DM) (XP : DM) (XQ : DM) =>
    bnd (wrA 150 (XS 5) x2 0) fun f31 =>
    sl (va_up XS 5 f31) fun X34 =>
    j78 x2 X34 XW XP XQ) fun j71 =>
    if r24 = 0 then (
    j71 x2 XS XW XP XQ) else (
    bnd (fX4_isMark XW x2) fun r37 =>
    if r37 = 0 then (
    j78 x2 XS XW XP XQ) else (
    j71 x2 XS XW XP XQ)))
def fX3_startAnew (n : Nat) (XS : DM) (XW : DM) (XP : DM) (XQ : DM) (p1 : Int32) : Option (DM × DM × DM × DM) :=
sl (va_up XS 2 (fun _ => p1)) fun X1 =>
bnd (fX4_read n 300 (X1 1) XW XP XQ (X1 2 0)) fun u7 =>
sl (va_up X1 9 (fun _ => 0)) fun X8 =>
sl (va_up X8 11 (fun _ => 0)) fun X10 =>
bnd (fX5_fill n 3 (X10 10) (-1)) fun f12 =>
sl (va_up X10 10 f12) fun X14 =>
sl (fun (XS : DM) (XW : DM) (XP : DM) (XQ : DM) =>
bnd (fX4_shownBehind n XW (-1)) fun r16 =>
bnd (fX3_becomePresent n XS XW r16) fun X21 =>
some (X21, XW, XP, XQ)) fun j84 =>
fX3_startAnew_L40 n j84 n 0 X14 u7.1 u7.2.1 u7.2.2
def fX3_passError (XS : DM) (p1 : Int32) : Option (Int32) :=
if p1 < 1 then (
some (-1)) else (
if p1 ≤ 9999 then (
if (XS 6 0) = (-1) then (
some (-2)) else (
some 0)) else (
some (-1)))
def fX3_endSentenceOf_L33 (n : Nat) (XW : DM) (XP : DM) (k100_ : DM → Option (DM)) : Nat → Int32 → Int32 → Int32 → DM → Option (DM)
  | 0, _, _, _, _ => none
  | fu + 1, x1, x3, x4, XS =>
    if 3 ≤ x4 then (
    k100_ XS) else (
    if (XS 11 0) = 0 then (
    bnd (fX4_hasClassAmong n XW x4 x3 x1) fun r15 =>
    sl (fun (x1 : Int32) (x3 : Int32) (x4 : Int32) (XS : DM) =>
    sl (x4 + 1) fun v20 =>
    fX3_endSentenceOf_L33 n XW XP k100_ fu x1 x3 v20 XS) fun j94 =>
    if r15 = 0 then (
    j94 x1 x3 x4 XS) else (
    bnd (fX5_at 3 (XS 4) x4) fun r23 =>
    bnd (fX5_at 7 (XS 3) 6) fun r28 =>
    sl (if (r23 + r28) < 400 then (r23 + r28) else 400) fun v33 =>
    bnd (fX5_put 3 (XS 4) x4 v33) fun f35 =>
    sl (va_up XS 4 f35) fun X37 =>
    j94 x1 x3 x4 X37)) else (
    k100_ XS))
def fX3_endSentenceOf (n : Nat) (XS : DM) (XW : DM) (XP : DM) (p1 : Int32) : Option (DM) :=
bnd (fX5_at 150 (XP 2) p1) fun r1 =>
bnd (fX5_at 150 (XP 0) r1) fun r6 =>
sl (fun (XS : DM) =>
sl (va_up XS 11 (fun _ => 0)) fun X11 =>
some X11) fun j100 =>
fX3_endSentenceOf_L33 n XW XP j100 n p1 r6 0 XS
def fX3_letPass_L4 (n : Nat) (XW : DM) (XP : DM) (k96_ : Int32 → Int32 → DM → Option (Int32 × DM)) : Nat → Int32 → Int32 → DM → Option (Int32 × DM)
  | 0, _, _, _ => none
  | fu + 1, x2, x3, XS =>
    if 150 ≤ x3 then (
    k96_ x2 x3 XS) else (
    if (XS 6 0) = (-1) then (
    k96_ x2 x3 XS) else (
    if x2 < (XS 7 0) then (
    k96_ x2 x3 XS) else (
    sl (x2 - (XS 7 0)) fun v11 =>
    sl (va_up XS 12 (fun _ => ((XS 12 0) + (XS 7 0)))) fun X13 =>
    sl (x3 + 1) fun v15 =>
    bnd (fX4_shownBehind n XW (X13 6 0)) fun r17 =>
    bnd (fX4_endsAheadOf XW XP r17 (X13 6 0)) fun r22 =>
    sl (fun (x2 : Int32) (x3 : Int32) (x4 : Int32) (XS : DM) =>
    bnd (fX3_becomePresent n XS XW x4) fun X27 =>
    fX3_letPass_L4 n XW XP k96_ fu x2 x3 X27) fun j87 =>
    if r22 = 0 then (
    j87 v11 v15 r17 X13) else (
    bnd (fX3_endSentenceOf n X13 XW XP (X13 6 0)) fun X30 =>
    j87 v11 v15 r17 X30))))
def fX3_letPass (n : Nat) (XS : DM) (XW : DM) (XP : DM) (p1 : Int32) : Option (Int32 × DM) :=
sl (fun (x2 : Int32) (x3 : Int32) (XS : DM) =>
sl (fun (x3 : Int32) (XS : DM) =>
sl (va_up XS 13 (fun _ => ((XS 13 0) + x3))) fun X1 =>
some (x3, X1)) fun j124 =>
if (XS 6 0) = (-1) then (
j124 x3 XS) else (
sl (va_up XS 7 (fun _ => ((XS 7 0) - x2))) fun X4 =>
sl (va_up X4 12 (fun _ => ((X4 12 0) + x2))) fun X6 =>
j124 x3 X6)) fun j96 =>
fX3_letPass_L4 n XW XP j96 n p1 0 XS
def fX3_askError (n : Nat) (XS : DM) (XW : DM)  : Option (Int32) :=
bnd (fX4_shownBehind n XW (-1)) fun r1 =>
if r1 = (-1) then (
some (-2)) else (
some 0)
def fX3_isClassOfLatest_L2 (n : Nat) (XS : DM) (XW : DM)  : Nat → Int32 → Int32 → Option (Int32)
  | 0, _, _ => none
  | fu + 1, x1, x2 =>
    if 3 ≤ x2 then (
    some 0) else (
    bnd (rdA 3 (XS 10) x2) fun v2 =>
    sl (fun (x1 : Int32) (x2 : Int32) =>
    sl (x2 + 1) fun v5 =>
    fX3_isClassOfLatest_L2 n XS XW fu x1 v5) fun j40 =>
    if v2 = (-1) then (
    j40 x1 x2) else (
    bnd (rdA 3 (XS 10) x2) fun v8 =>
    bnd (fX4_classOf XW v8) fun r11 =>
    if r11 = x1 then (
    some 1) else (
    j40 x1 x2)))
def fX3_isClassOfLatest (n : Nat) (XS : DM) (XW : DM) (p1 : Int32) : Option (Int32) :=
fX3_isClassOfLatest_L2 n XS XW n p1 0
def fX3_wordAskedFor (n : Nat) (XS : DM) (XW : DM) (XP : DM)  : Option (Int32) :=
if (XS 6 0) = (-1) then (
bnd (fX4_firstBeforeSentence n XW XP (XP 3 0)) fun r19 =>
some r19) else (
bnd (fX5_at 150 (XP 2) (XS 6 0)) fun r2 =>
bnd (fX5_at 150 (XP 0) r2) fun r7 =>
if (XS 6 0) = r7 then (
bnd (fX4_firstBeforeSentence n XW XP r2) fun r13 =>
if r13 = (-1) then (
some (XS 6 0)) else (
some r13)) else (
some r7))
def fX3_askBack_L2 (n : Nat) (XW : DM) (XP : DM) (k51_ : DM → Option (DM)) : Nat → Int32 → DM → Option (DM)
  | 0, _, _ => none
  | fu + 1, x1, XS =>
    if 3 ≤ x1 then (
    k51_ XS) else (
    bnd (fX3_isClassOfLatest n XS XW x1) fun r13 =>
    sl (fun (x1 : Int32) (XS : DM) =>
    sl (x1 + 1) fun v18 =>
    fX3_askBack_L2 n XW XP k51_ fu v18 XS) fun j45 =>
    if r13 = 0 then (
    j45 x1 XS) else (
    bnd (fX5_at 3 (XS 4) x1) fun r21 =>
    bnd (fX5_at 7 (XS 3) 5) fun r26 =>
    sl (if 50 < (r21 - r26) then (r21 - r26) else 50) fun v31 =>
    bnd (fX5_put 3 (XS 4) x1 v31) fun f33 =>
    sl (va_up XS 4 f33) fun X35 =>
    j45 x1 X35))
def fX3_askBack (n : Nat) (XS : DM) (XW : DM) (XP : DM)  : Option (DM) :=
sl (fun (XS : DM) =>
sl (va_up XS 11 (fun _ => 1)) fun X1 =>
sl (va_up X1 14 (fun _ => ((X1 14 0) + 1))) fun X3 =>
bnd (fX3_wordAskedFor n X3 XW XP) fun r5 =>
bnd (fX3_becomePresent n X3 XW r5) fun X10 =>
some X10) fun j51 =>
fX3_askBack_L2 n XW XP j51 n 0 XS
def fX3_leapError (XS : DM) (XW : DM) (XP : DM) (p1 : Int32) : Option (Int32) :=
bnd (fX2_has XP p1) fun r1 =>
if r1 = 0 then (
some (-1)) else (
if (XS 6 0) = (-1) then (
some (-2)) else (
bnd (fX5_at 150 (XP 0) p1) fun r8 =>
bnd (fX4_isMark XW r8) fun r13 =>
if r13 = 0 then (
some 0) else (
some (-2))))
def fX3_leapTo_L10 (n : Nat) (XW : DM) (XP : DM) (k39_ : Int32 → DM → Option (DM)) : Nat → Int32 → Int32 → DM → Option (DM)
  | 0, _, _, _ => none
  | fu + 1, x1, x2, XS =>
    if 5 ≤ x2 then (
    k39_ x1 XS) else (
    bnd (rdA 5 (XS 8) x2) fun v20 =>
    bnd (wrA 5 (XS 8) (x2 - 1) v20) fun f23 =>
    sl (va_up XS 8 f23) fun X26 =>
    sl (x2 + 1) fun v28 =>
    fX3_leapTo_L10 n XW XP k39_ fu x1 v28 X26)
def fX3_leapTo (n : Nat) (XS : DM) (XW : DM) (XP : DM) (p1 : Int32) : Option (DM) :=
sl (fun (x1 : Int32) (XS : DM) =>
bnd (fX5_put 5 (XS 8) (XS 9 0) (XS 6 0)) fun f1 =>
sl (va_up XS 8 f1) fun X3 =>
sl (va_up X3 9 (fun _ => ((X3 9 0) + 1))) fun X5 =>
sl (va_up X5 11 (fun _ => 0)) fun X7 =>
bnd (fX5_at 150 (XP 0) x1) fun r9 =>
bnd (fX3_becomePresent n X7 XW r9) fun X14 =>
some X14) fun j44 =>
if (XS 9 0) < 5 then (
j44 p1 XS) else (
sl (fun (x1 : Int32) (XS : DM) =>
sl (va_up XS 9 (fun _ => 4)) fun X17 =>
j44 x1 X17) fun j39 =>
fX3_leapTo_L10 n XW XP j39 n p1 1 XS)
def fX3_returnError (XS : DM)  : Option (Int32) :=
if (XS 9 0) = 0 then (
some (-2)) else (
some 0)
def fX3_returnToPlace (n : Nat) (XS : DM) (XW : DM)  : Option (DM) :=
sl (va_up XS 9 (fun _ => ((XS 9 0) - 1))) fun X1 =>
sl (va_up X1 11 (fun _ => 0)) fun X3 =>
bnd (fX5_at 5 (X3 8) (X3 9 0)) fun r5 =>
bnd (fX3_becomePresent n X3 XW r5) fun X10 =>
some X10
def fX3_countNotes_L4 (n : Nat) (XS : DM)  : Nat → Int32 → Int32 → Option (Int32)
  | 0, _, _ => none
  | fu + 1, x1, x2 =>
    if 150 ≤ x2 then (
    some x1) else (
    bnd (rdA 150 (XS 5) x2) fun v2 =>
    sl (fun (x1 : Int32) (x2 : Int32) =>
    sl (x2 + 1) fun v5 =>
    fX3_countNotes_L4 n XS fu x1 v5) fun j25 =>
    if v2 = 0 then (
    j25 x1 x2) else (
    sl (x1 + 1) fun v8 =>
    j25 v8 x2))
def fX3_countNotes (n : Nat) (XS : DM)  : Option (Int32) :=
fX3_countNotes_L4 n XS n 0 0
def fX3_noteError (n : Nat) (XS : DM) (XW : DM) (p1 p2 : Int32) : Option (Int32) :=
bnd (fX4_has XW p1) fun r1 =>
if r1 = 0 then (
some (-1)) else (
if p2 < 1 then (
some (-1)) else (
if p2 ≤ 99 then (
bnd (fX4_isMark XW p1) fun r9 =>
if r9 = 0 then (
bnd (fX5_at 150 (XS 5) p1) fun r15 =>
if r15 = 0 then (
bnd (fX3_countNotes n XS) fun r21 =>
if r21 < 10 then (
some 0) else (
some (-3))) else (
some 0)) else (
some (-2))) else (
some (-1))))
def fX3_notedFrom_L2 (n : Nat) (XS : DM)  : Nat → Int32 → Option (Int32)
  | 0, _ => none
  | fu + 1, x2 =>
    if 150 ≤ x2 then (
    some (-4)) else (
    bnd (fX5_at 150 (XS 5) x2) fun r2 =>
    if r2 = 0 then (
    sl (x2 + 1) fun v8 =>
    fX3_notedFrom_L2 n XS fu v8) else (
    some x2))
def fX3_notedFrom (n : Nat) (XS : DM) (p1 : Int32) : Option (Int32) :=
fX3_notedFrom_L2 n XS n p1
def fX3_notedBefore_L12 (n : Nat) (XS : DM)  : Nat → Int32 → Option (Int32)
  | 0, _ => none
  | fu + 1, x2 =>
    if x2 < 0 then (
    some (-4)) else (
    bnd (fX5_at 150 (XS 5) x2) fun r6 =>
    if r6 = 0 then (
    sl (x2 + (-1)) fun v12 =>
    fX3_notedBefore_L12 n XS fu v12) else (
    some x2))
def fX3_notedBefore (n : Nat) (XS : DM) (p1 : Int32) : Option (Int32) :=
sl (if 150 < p1 then 150 else p1) fun v1 =>
sl (v1 - 1) fun v3 =>
fX3_notedBefore_L12 n XS n v3
