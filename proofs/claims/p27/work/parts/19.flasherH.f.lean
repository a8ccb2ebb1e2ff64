def fX5_count (n : Nat) (XF : DM) (XN : DM) (XW : DM) (XP : DM) (XQ : DM) (XO : DM) (XH : HD) (p1 : Int32) : Option (Int32) :=
sl (fun (x1 : Int32) =>
sl (fun (x1 : Int32) =>
if x1 = 0 then (
some (XN 2 0)) else if x1 = 1 then (
some (XW 8 0)) else if x1 = 2 then (
some (XP 3 0)) else if x1 = 3 then (
some (XQ 3 0)) else if x1 = 4 then (
if (XN 6 0) = (-1) then (
some (-4)) else (
some (XN 6 0))) else if x1 = 5 then (
if (XN 6 0) = (-1) then (
some (-4)) else (
some (XN 7 0))) else if x1 = 6 then (
some (XN 9 0)) else if x1 = 7 then (
bnd (fX3_countNotes n XN) fun r18 =>
some r18) else if x1 = 8 then (
some (XN 12 0)) else if x1 = 9 then (
some (XN 13 0)) else if x1 = 10 then (
some (XN 14 0)) else if x1 = 11 then (
some (XH.2.1 1 0)) else if x1 = 12 then (
some (XO 1 0)) else if x1 = 13 then (
bnd (fX3_timeOfAll n XN XW 0 ((XW 8 0) - 1)) fun r35 =>
some r35) else (
some (-1))) fun j54 =>
if x1 < 30 then (
j54 x1) else (
if 33 ≤ x1 then (
j54 x1) else (
bnd (fX5_at 3 (XN 4) (x1 - 30)) fun r43 =>
some r43))) fun j27 =>
if p1 < 20 then (
j27 p1) else (
if 27 ≤ p1 then (
j27 p1) else (
bnd (fX5_at 7 (XN 3) (p1 - 20)) fun r50 =>
some r50))
def fX5_append (n : Nat) (XF : DM) (XN : DM) (XW : DM) (XP : DM) (XQ : DM) (XH : HD) (p1 : Int32) : Option (Int32 × DM × DM × DM × DM × HD) :=
bnd (fX5_isCharacter p1) fun r1 =>
if r1 = 0 then (
some ((-1), XN, XW, XP, XQ, XH)) else (
if (XN 2 0) < 300 then (
bnd (fX0_keep XN XH) fun X8 =>
bnd (fX5_put 300 (XN 1) (XN 2 0) p1) fun f10 =>
sl (va_up XN 1 f10) fun X12 =>
bnd (fX3_startAnew n X12 XW XP XQ ((X12 2 0) + 1)) fun u19 =>
some ((u19.2.1 8 0), u19.1, u19.2.1, u19.2.2.1, u19.2.2.2, X8)) else (
some ((-3), XN, XW, XP, XQ, XH)))
def fX5_cut (n : Nat) (XF : DM) (XN : DM) (XW : DM) (XP : DM) (XQ : DM) (XH : HD) (p1 : Int32) : Option (Int32 × DM × DM × DM × DM × HD) :=
if p1 < 1 then (
some ((-1), XN, XW, XP, XQ, XH)) else (
if p1 ≤ 300 then (
if p1 ≤ (XN 2 0) then (
bnd (fX0_keep XN XH) fun X4 =>
bnd (fX3_startAnew n XN XW XP XQ ((XN 2 0) - p1)) fun u11 =>
some ((u11.1 2 0), u11.1, u11.2.1, u11.2.2.1, u11.2.2.2, X4)) else (
some ((-2), XN, XW, XP, XQ, XH))) else (
some ((-1), XN, XW, XP, XQ, XH)))
def fX5_set (XF : DM) (XN : DM) (XH : HD) (p1 p2 : Int32) : Option (Int32 × DM × HD) :=
if p1 < 0 then (
some ((-1), XN, XH)) else (
if p1 < 7 then (
bnd (fX5_at 7 lowS p1) fun r3 =>
if p2 < r3 then (
some ((-1), XN, XH)) else (
bnd (fX5_at 7 highS p1) fun r7 =>
if p2 ≤ r7 then (
bnd (fX0_keep XN XH) fun X11 =>
bnd (fX5_at 7 (XN 3) p1) fun r13 =>
bnd (fX5_put 7 (XN 3) p1 p2) fun f18 =>
sl (va_up XN 3 f18) fun X20 =>
some (r13, X20, X11)) else (
some ((-1), XN, XH)))) else (
some ((-1), XN, XH)))
def fX5_speed (XF : DM) (XN : DM) (XH : HD) (p1 p2 : Int32) : Option (Int32 × DM × HD) :=
if p1 < 0 then (
some ((-1), XN, XH)) else (
if 3 ≤ p1 then (
some ((-1), XN, XH)) else (
if p2 < 50 then (
some ((-1), XN, XH)) else (
if p2 ≤ 400 then (
bnd (fX0_keep XN XH) fun X5 =>
bnd (fX5_at 3 (XN 4) p1) fun r7 =>
bnd (fX5_put 3 (XN 4) p1 p2) fun f12 =>
sl (va_up XN 4 f12) fun X14 =>
some (r7, X14, X5)) else (
some ((-1), XN, XH)))))
def fX5_run (n : Nat) (XF : DM) (XN : DM) (XW : DM) (XP : DM) (XH : HD) (p1 : Int32) : Option (Int32 × DM × HD) :=
bnd (fX3_passError XN p1) fun r1 =>
if r1 = 0 then (
bnd (fX0_keep XN XH) fun X7 =>
bnd (fX3_letPass n XN XW XP p1) fun u12 =>
some (u12.1, u12.2, X7)) else (
some (r1, XN, XH))
def fX5_back (n : Nat) (XF : DM) (XN : DM) (XW : DM) (XP : DM) (XH : HD)  : Option (Int32 × DM × HD) :=
bnd (fX3_askError n XN XW) fun r1 =>
if r1 = 0 then (
bnd (fX0_keep XN XH) fun X7 =>
bnd (fX3_askBack n XN XW XP) fun X9 =>
some ((X9 6 0), X9, X7)) else (
some (r1, XN, XH))
def fX5_jump (n : Nat) (XF : DM) (XN : DM) (XW : DM) (XP : DM) (XH : HD) (p1 : Int32) : Option (Int32 × DM × HD) :=
bnd (fX3_leapError XN XW XP p1) fun r1 =>
if r1 = 0 then (
bnd (fX0_keep XN XH) fun X7 =>
bnd (fX3_leapTo n XN XW XP p1) fun X9 =>
some ((X9 6 0), X9, X7)) else (
some (r1, XN, XH))
def fX5_goBack (n : Nat) (XF : DM) (XN : DM) (XW : DM) (XH : HD)  : Option (Int32 × DM × HD) :=
bnd (fX3_returnError XN) fun r1 =>
if r1 = 0 then (
bnd (fX0_keep XN XH) fun X7 =>
bnd (fX3_returnToPlace n XN XW) fun X9 =>
some ((X9 6 0), X9, X7)) else (
some (r1, XN, XH))
def fX5_undo (n : Nat) (XF : DM) (XN : DM) (XW : DM) (XP : DM) (XQ : DM) (XH : HD)  : Option (Int32 × DM × DM × DM × DM × HD) :=
if (XH.2.1 1 0) = 0 then (
some ((-2), XN, XW, XP, XQ, XH)) else (
bnd (fX0_restore XN XH) fun u5 =>
bnd (fX4_read n 300 (u5.1 1) XW XP XQ (u5.1 2 0)) fun u10 =>
some ((u5.2.2.1 1 0), u5.1, u10.1, u10.2.1, u10.2.2, u5.2))
def fX5_note (n : Nat) (XF : DM) (XN : DM) (XW : DM) (XH : HD) (p1 p2 : Int32) : Option (Int32 × DM × HD) :=
bnd (fX3_noteError n XN XW p1 p2) fun r1 =>
if r1 = 0 then (
bnd (fX0_keep XN XH) fun X7 =>
bnd (fX5_put 150 (XN 5) p1 p2) fun f9 =>
sl (va_up XN 5 f9) fun X11 =>
bnd (fX3_countNotes n X11) fun r13 =>
some (r13, X11, X7)) else (
some (r1, XN, XH))
def fX5_unnote (XF : DM) (XN : DM) (XW : DM) (XH : HD) (p1 : Int32) : Option (Int32 × DM × HD) :=
bnd (fX4_has XW p1) fun r1 =>
if r1 = 0 then (
some ((-1), XN, XH)) else (
bnd (fX5_at 150 (XN 5) p1) fun r7 =>
if r7 = 0 then (
some ((-4), XN, XH)) else (
bnd (fX0_keep XN XH) fun X13 =>
bnd (fX5_put 150 (XN 5) p1 0) fun f15 =>
sl (va_up XN 5 f15) fun X17 =>
some (r7, X17, X13)))
def fX5_carry_L29 (n : Nat) (XF : DM) (XW : DM) (XP : DM) (XO : DM)  : Nat → Int32 → Int32 → DM → HD → Option (Int32 × DM × HD)
  | 0, _, _, _, _ => none
  | fu + 1, x1, x2, XN, XH =>
    if 60 ≤ x1 then (
    some (x1, XN, XH)) else (
    if x2 < 0 then (
    some (x1, XN, XH)) else (
    if (XO 1 0) ≤ x2 then (
    some (x1, XN, XH)) else (
    bnd (fX1_characterAt XO x2) fun r12 =>
    bnd (fX1_numberBehind n XO x2) fun r17 =>
    bnd (fX5_carryOut n XF XN XW XP r12 r17) fun u25 =>
    if u25.1 = 0 then (
    some (x1, u25.2, XH)) else (
    sl (x1 + 1) fun v30 =>
    bnd (fX1_endOf n XO x2) fun r32 =>
    fX5_carry_L29 n XF XW XP XO fu v30 r32 u25.2 XH))))
def fX5_carry (n : Nat) (XF : DM) (XN : DM) (XW : DM) (XP : DM) (XO : DM) (XH : HD)  : Option (Int32 × DM × HD) :=
bnd (fX1_firstFault n XO) fun r1 =>
if r1 = (-1) then (
bnd (fX0_keep XN XH) fun X7 =>
fX5_carry_L29 n XF XW XP XO n 0 0 XN X7) else (
some ((-2), XN, XH))
