def fX5_spanProperty (n : Nat) (XF : DM) (XN : DM) (XW : DM) (p1 p2 p3 : Int32) : Option (Int32) :=
if p3 = 0 then (
some p1) else if p3 = 1 then (
some p2) else (
bnd (fX3_timeOfAll n XN XW p1 p2) fun r5 =>
some r5)
def fX5_word (XF : DM) (XN : DM) (XW : DM) (XP : DM) (XQ : DM) (p1 p2 : Int32) : Option (Int32) :=
bnd (fX4_has XW p1) fun r1 =>
if r1 = 0 then (
some (-1)) else (
if p2 < 0 then (
some (-1)) else (
if p2 < 11 then (
if p2 = 0 then (
bnd (fX5_at 150 (XW 0) p1) fun r10 =>
some r10) else if p2 = 1 then (
bnd (fX5_at 150 (XW 1) p1) fun r17 =>
some r17) else if p2 = 2 then (
bnd (fX5_at 150 (XW 2) p1) fun r24 =>
some r24) else if p2 = 3 then (
bnd (fX4_classOf XW p1) fun r31 =>
some r31) else if p2 = 4 then (
bnd (fX5_at 150 (XW 3) p1) fun r38 =>
some r38) else if p2 = 5 then (
bnd (fX5_at 150 (XP 2) p1) fun r45 =>
some r45) else if p2 = 6 then (
bnd (fX5_at 150 (XQ 2) p1) fun r52 =>
some r52) else if p2 = 7 then (
bnd (fX3_measureOf XN XW p1) fun r59 =>
some r59) else if p2 = 8 then (
bnd (fX3_timeOf XN XW p1) fun r66 =>
some r66) else if p2 = 9 then (
bnd (fX5_at 150 (XN 5) p1) fun r73 =>
some r73) else (
bnd (fX5_at 150 (XW 5) p1) fun r79 =>
some r79)) else (
some (-1))))
def fX5_sentence (n : Nat) (XF : DM) (XN : DM) (XW : DM) (XP : DM) (p1 p2 : Int32) : Option (Int32) :=
bnd (fX2_has XP p1) fun r1 =>
if r1 = 0 then (
some (-1)) else (
if p2 < 0 then (
some (-1)) else (
if p2 < 4 then (
bnd (fX5_at 150 (XP 0) p1) fun r9 =>
bnd (fX5_at 150 (XP 1) p1) fun r14 =>
if p2 = 3 then (
bnd (fX4_shownAmong n XW r9 r14) fun r25 =>
some r25) else (
bnd (fX5_spanProperty n XF XN XW r9 r14 p2) fun r20 =>
some r20)) else (
some (-1))))
def fX5_page (n : Nat) (XF : DM) (XN : DM) (XW : DM) (XP : DM) (XQ : DM) (p1 p2 : Int32) : Option (Int32) :=
bnd (fX2_has XQ p1) fun r1 =>
if r1 = 0 then (
some (-1)) else (
if p2 < 0 then (
some (-1)) else (
if p2 < 4 then (
bnd (fX5_at 150 (XQ 0) p1) fun r9 =>
bnd (fX5_at 150 (XQ 1) p1) fun r14 =>
if p2 = 3 then (
bnd (fX4_sentencesAmong XW XP r9 r14) fun r25 =>
some r25) else (
bnd (fX5_spanProperty n XF XN XW r9 r14 p2) fun r20 =>
some r20)) else (
some (-1))))
def fX5_rankOf_L14 (n : Nat) (XF : DM) (XW : DM)  : Nat → Int32 → Int32 → Int32 → Int32 → Option (Int32)
  | 0, _, _, _, _ => none
  | fu + 1, x1, x2, x3, x4 =>
    if (XW 8 0) ≤ x4 then (
    some x3) else (
    bnd (fX5_at 150 (XF 5) x4) fun r7 =>
    sl (fun (x1 : Int32) (x2 : Int32) (x3 : Int32) (x4 : Int32) =>
    sl (x4 + 1) fun v12 =>
    fX5_rankOf_L14 n XF XW fu x1 x2 x3 v12) fun j58 =>
    sl (fun (x1 : Int32) (x2 : Int32) (x3 : Int32) (x4 : Int32) =>
    sl (x3 + 1) fun v14 =>
    j58 x1 x2 v14 x4) fun j55 =>
    if x2 < r7 then (
    j55 x1 x2 x3 x4) else (
    if r7 = x2 then (
    if x1 ≤ x4 then (
    j58 x1 x2 x3 x4) else (
    j55 x1 x2 x3 x4)) else (
    j58 x1 x2 x3 x4)))
def fX5_rankOf (n : Nat) (XF : DM) (XW : DM) (p1 : Int32) : Option (Int32) :=
bnd (fX5_at 150 (XF 5) p1) fun r1 =>
fX5_rankOf_L14 n XF XW n p1 r1 0 0
def fX5_longest_L43 (n : Nat) (XN : DM) (XW : DM)  : Nat → Int32 → Int32 → DM → Option (Int32 × DM)
  | 0, _, _, _ => none
  | fu + 1, x1, x2, XF =>
    if (XW 8 0) ≤ x2 then (
    some ((-4), XF)) else (
    bnd (fX4_isMark XW x2) fun r3 =>
    sl (fun (x1 : Int32) (x2 : Int32) (XF : DM) =>
    sl (x2 + 1) fun v8 =>
    fX5_longest_L43 n XN XW fu x1 v8 XF) fun j76 =>
    if r3 = 0 then (
    bnd (fX5_rankOf n XF XW x2) fun r11 =>
    if r11 = x1 then (
    some (x2, XF)) else (
    j76 x1 x2 XF)) else (
    j76 x1 x2 XF))
def fX5_longest_L8 (n : Nat) (XN : DM) (XW : DM) (k41_ : Int32 → DM → Option (Int32 × DM)) : Nat → Int32 → Int32 → DM → Option (Int32 × DM)
  | 0, _, _, _ => none
  | fu + 1, x1, x2, XF =>
    if (XW 8 0) ≤ x2 then (
    k41_ x1 XF) else (
    bnd (fX3_timeOf XN XW x2) fun r18 =>
    bnd (fX5_put 150 (XF 5) x2 r18) fun f23 =>
    sl (va_up XF 5 f23) fun X25 =>
    sl (x2 + 1) fun v27 =>
    fX5_longest_L8 n XN XW k41_ fu x1 v27 X25)
def fX5_longest (n : Nat) (XF : DM) (XN : DM) (XW : DM) (p1 : Int32) : Option (Int32 × DM) :=
if 0 ≤ p1 then (
sl (fun (x1 : Int32) (XF : DM) =>
fX5_longest_L43 n XN XW n x1 0 XF) fun j41 =>
fX5_longest_L8 n XN XW j41 n p1 0 XF) else (
some ((-1), XF))
def fX5_speedFor_L89 (n : Nat) (XF : DM) (XN : DM) (XW : DM) (XQ : DM)  : Nat → Int32 → Int32 → Int32 → Int32 → Int32 → Int32 → Option (Int32)
  | 0, _, _, _, _, _, _ => none
  | fu + 1, x2, x3, x4, x5, x6, x7 =>
    if 9 ≤ x7 then (
    some x5) else (
    if x6 ≤ x5 then (
    some x5) else (
    bnd (dvA (x5 + x6) 2) fun v27 =>
    bnd (fX3_timeOfAllWith n XN XW x3 x4 v27) fun r30 =>
    sl (fun (x2 : Int32) (x3 : Int32) (x4 : Int32) (x5 : Int32) (x6 : Int32) (x7 : Int32) =>
    sl (x7 + 1) fun v35 =>
    fX5_speedFor_L89 n XF XN XW XQ fu x2 x3 x4 x5 x6 v35) fun j141 =>
    if x2 < r30 then (
    sl (v27 + 1) fun v38 =>
    j141 x2 x3 x4 v38 x6 x7) else (
    j141 x2 x3 x4 x5 v27 x7)))
def fX5_speedFor (n : Nat) (XF : DM) (XN : DM) (XW : DM) (XQ : DM) (p1 p2 : Int32) : Option (Int32) :=
bnd (fX2_has XQ p1) fun r1 =>
if r1 = 0 then (
some (-1)) else (
if p2 < 0 then (
some (-1)) else (
if p2 ≤ 100000 then (
bnd (fX5_at 150 (XQ 0) p1) fun r9 =>
bnd (fX5_at 150 (XQ 1) p1) fun r14 =>
bnd (fX3_timeOfAllWith n XN XW r9 r14 400) fun r19 =>
if r19 ≤ p2 then (
fX5_speedFor_L89 n XF XN XW XQ n p2 r9 r14 50 400 0) else (
some (-4))) else (
some (-1))))
def fX5_order (XF : DM) (XO : DM) (p1 : Int32) : Option (Int32 × DM) :=
bnd (fX5_isCharacter p1) fun r1 =>
if r1 = 0 then (
some ((-1), XO)) else (
if (XO 1 0) < 60 then (
bnd (fX1_add XO p1) fun X8 =>
some ((X8 1 0), X8)) else (
some ((-3), XO)))
def fX5_clearOrders (XF : DM) (XO : DM)  : Option (Int32 × DM) :=
sl (va_up XO 1 (fun _ => 0)) fun X1 =>
some ((XO 1 0), X1)
def fX5_fault (n : Nat) (XF : DM) (XO : DM)  : Option (Int32) :=
bnd (fX1_firstFault n XO) fun r1 =>
if r1 = (-1) then (
some (-4)) else (
some r1)
def fX5_noted (n : Nat) (XF : DM) (XN : DM) (p1 p2 : Int32) : Option (Int32) :=
if p1 < 0 then (
some (-1)) else (
if p2 < 0 then (
some (-1)) else (
if p2 ≤ 1 then (
if p2 = 0 then (
bnd (fX3_notedFrom n XN p1) fun r10 =>
some r10) else (
bnd (fX3_notedBefore n XN p1) fun r5 =>
some r5)) else (
some (-1))))
def fX5_orderError (n : Nat) (XF : DM) (XN : DM) (XW : DM) (XP : DM) (p1 p2 : Int32) : Option (Int32) :=
if p1 = 98 then (
bnd (fX3_askError n XN XW) fun r2 =>
some r2) else if p1 = 106 then (
bnd (fX3_leapError XN XW XP p2) fun r9 =>
some r9) else if p1 = 114 then (
bnd (fX3_passError XN p2) fun r16 =>
some r16) else if p1 = 117 then (
bnd (fX3_returnError XN) fun r23 =>
some r23) else (
bnd (fX3_noteError n XN XW (XN 6 0) p2) fun r29 =>
some r29)
def fX5_carryOut (n : Nat) (XF : DM) (XN : DM) (XW : DM) (XP : DM) (p1 p2 : Int32) : Option (Int32 × DM) :=
bnd (fX5_orderError n XF XN XW XP p1 p2) fun r1 =>
if r1 = 0 then (
if p1 = 98 then (
bnd (fX3_askBack n XN XW XP) fun X8 =>
some (1, X8)) else if p1 = 106 then (
bnd (fX3_leapTo n XN XW XP p2) fun X12 =>
some (1, X12)) else if p1 = 114 then (
bnd (fX3_letPass n XN XW XP p2) fun u19 =>
some (1, u19.2)) else if p1 = 117 then (
bnd (fX3_returnToPlace n XN XW) fun X25 =>
some (1, X25)) else (
bnd (fX5_put 150 (XN 5) (XN 6 0) p2) fun f28 =>
sl (va_up XN 5 f28) fun X30 =>
some (1, X30))) else (
some (0, XN))
def fX5_ifRun (n : Nat) (XF : DM) (XN : DM) (XA : DM) (XW : DM) (XP : DM) (p1 : Int32) : Option (Int32 × DM) :=
bnd (fX3_passError XN p1) fun r1 =>
if r1 = 0 then (
bnd (fX3_copy XA XN) fun X7 =>
bnd (fX3_letPass n X7 XW XP p1) fun u12 =>
if (u12.2 6 0) = (-1) then (
some ((-4), u12.2)) else (
some ((u12.2 6 0), u12.2))) else (
some (r1, XA))
def fX5_left (n : Nat) (XF : DM) (XN : DM) (XA : DM) (XW : DM) (XP : DM)  : Option (Int32 × DM) :=
if (XN 6 0) = (-1) then (
some ((-2), XA)) else (
bnd (fX3_copy XA XN) fun X2 =>
bnd (fX3_letPass n X2 XW XP 1000000000) fun u7 =>
some (((u7.2 12 0) - (XN 12 0)), u7.2))
