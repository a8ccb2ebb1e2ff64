def fX6_word (n : Nat) (XM : DM) (p1 p2 : Int32) : Option (Int32) :=
bnd (fX6_isWord XM p1) fun r1 =>
if r1 = 0 then (
some (-1)) else (
bnd (fX6_in p2 0 10) fun r7 =>
if r7 = 0 then (
some (-1)) else (
bnd (fX6_noteOf n XM p1) fun r13 =>
if p2 = 0 then (
bnd (rdA 151 (XM 12) p1) fun v19 =>
some v19) else if p2 = 1 then (
bnd (rdA 151 (XM 13) p1) fun v24 =>
some v24) else if p2 = 2 then (
bnd (rdA 151 (XM 14) p1) fun v29 =>
some v29) else if p2 = 3 then (
bnd (fX6_classOf XM p1) fun r34 =>
some r34) else if p2 = 4 then (
bnd (rdA 151 (XM 15) p1) fun v41 =>
some v41) else if p2 = 5 then (
bnd (rdA 151 (XM 17) p1) fun v46 =>
some v46) else if p2 = 6 then (
bnd (rdA 151 (XM 18) p1) fun v51 =>
some v51) else if p2 = 7 then (
bnd (fX6_measureOf XM p1) fun r56 =>
some r56) else if p2 = 8 then (
bnd (fX6_timeOf XM p1) fun r63 =>
some r63) else if p2 = 9 then (
if r13 = (-1) then (
some 0) else (
bnd (rdA 348 (XM 0) (320 + r13)) fun v71 =>
some v71)) else (
bnd (fX6_spotOf n XM p1) fun r75 =>
some r75)))
def fX6_sentence_L33 (n : Nat) (XM : DM) (k105_ : Int32 → Int32 → Int32 → Int32 → Int32 → Option (Int32)) : Nat → Int32 → Int32 → Int32 → Int32 → Int32 → Int32 → Int32 → Option (Int32)
  | 0, _, _, _, _, _, _, _ => none
  | fu + 1, x1, x2, x3, x4, x5, x6, x7 =>
    if (XM 9 0) ≤ x7 then (
    k105_ x2 x3 x4 x5 x6) else (
    bnd (rdA 151 (XM 17) x7) fun v17 =>
    sl (fun (x1 : Int32) (x2 : Int32) (x3 : Int32) (x4 : Int32) (x5 : Int32) (x6 : Int32) (x7 : Int32) =>
    sl (x7 + 1) fun v20 =>
    fX6_sentence_L33 n XM k105_ fu x1 x2 x3 x4 x5 x6 v20) fun j99 =>
    if v17 = x1 then (
    sl (fun (x1 : Int32) (x2 : Int32) (x5 : Int32) (x6 : Int32) (x7 : Int32) (k0 : Int32) =>
    bnd (fX6_timeOf XM x7) fun r23 =>
    sl (x5 + r23) fun v28 =>
    bnd (fX6_isShown XM x7) fun r30 =>
    sl (fun (x1 : Int32) (x2 : Int32) (x3 : Int32) (x4 : Int32) (x5 : Int32) (x7 : Int32) (k0 : Int32) (k1 : Int32) =>
    sl (k0 + k1) fun v35 =>
    j99 x1 x2 x3 x4 x5 v35 x7) fun j96 =>
    if r30 = 0 then (
    j96 x1 x2 k0 x7 v28 x7 x6 0) else (
    j96 x1 x2 k0 x7 v28 x7 x6 1)) fun j64 =>
    if x3 = (-1) then (
    j64 x1 x2 x5 x6 x7 x7) else (
    j64 x1 x2 x5 x6 x7 x3)) else (
    j99 x1 x2 x3 x4 x5 x6 x7))
def fX6_sentence (n : Nat) (XM : DM) (p1 p2 : Int32) : Option (Int32) :=
bnd (fX6_isSentence XM p1) fun r1 =>
if r1 = 0 then (
some (-1)) else (
bnd (fX6_in p2 0 3) fun r7 =>
if r7 = 0 then (
some (-1)) else (
sl (fun (x2 : Int32) (x3 : Int32) (x4 : Int32) (x5 : Int32) (x6 : Int32) =>
if x2 = 0 then (
some x3) else (
if x2 = 1 then (
some x4) else (
if x2 = 2 then (
some x5) else (
some x6)))) fun j105 =>
fX6_sentence_L33 n XM j105 n p1 p2 (-1) 0 0 0 0))
def fX6_page_L30 (n : Nat) (XM : DM) (k83_ : Int32 → Int32 → Int32 → Int32 → Option (Int32)) : Nat → Int32 → Int32 → Int32 → Int32 → Int32 → Int32 → Option (Int32)
  | 0, _, _, _, _, _, _ => none
  | fu + 1, x1, x2, x3, x4, x5, x6 =>
    if (XM 9 0) ≤ x6 then (
    k83_ x2 x3 x4 x5) else (
    bnd (rdA 151 (XM 18) x6) fun v23 =>
    sl (fun (x1 : Int32) (x2 : Int32) (x3 : Int32) (x4 : Int32) (x5 : Int32) (x6 : Int32) =>
    sl (x6 + 1) fun v26 =>
    fX6_page_L30 n XM k83_ fu x1 x2 x3 x4 x5 v26) fun j77 =>
    if v23 = x1 then (
    sl (fun (x1 : Int32) (x2 : Int32) (x5 : Int32) (x6 : Int32) (k0 : Int32) =>
    bnd (fX6_timeOf XM x6) fun r29 =>
    sl (x5 + r29) fun v34 =>
    j77 x1 x2 k0 x6 v34 x6) fun j61 =>
    if x3 = (-1) then (
    j61 x1 x2 x5 x6 x6) else (
    j61 x1 x2 x5 x6 x3)) else (
    j77 x1 x2 x3 x4 x5 x6))
def fX6_page (n : Nat) (XM : DM) (p1 p2 : Int32) : Option (Int32) :=
bnd (fX6_isPage XM p1) fun r1 =>
if r1 = 0 then (
some (-1)) else (
bnd (fX6_in p2 0 3) fun r7 =>
if r7 = 0 then (
some (-1)) else (
sl (fun (x2 : Int32) (x3 : Int32) (x4 : Int32) (x5 : Int32) =>
if x2 = 0 then (
some x3) else (
if x2 = 1 then (
some x4) else (
if x2 = 2 then (
some x5) else (
bnd (rdA 151 (XM 17) x4) fun v16 =>
bnd (rdA 151 (XM 17) x3) fun v19 =>
some ((v16 - v19) + 1))))) fun j83 =>
fX6_page_L30 n XM j83 n p1 p2 (-1) 0 0 0))
def fX6_count_L54 (n : Nat) (XM : DM) (k76_ : Int32 → Int32 → Option (Int32)) : Nat → Int32 → Int32 → Int32 → Option (Int32)
  | 0, _, _, _ => none
  | fu + 1, x1, x2, x3 =>
    if (XM 9 0) ≤ x3 then (
    k76_ x1 x2) else (
    bnd (fX6_timeOf XM x3) fun r74 =>
    sl (x2 + r74) fun v79 =>
    sl (x3 + 1) fun v81 =>
    fX6_count_L54 n XM k76_ fu x1 v79 v81)
def fX6_count (n : Nat) (XM : DM) (p1 : Int32) : Option (Int32) :=
bnd (fX6_in p1 20 26) fun r1 =>
if r1 = 0 then (
bnd (fX6_in p1 30 32) fun r7 =>
if r7 = 0 then (
sl (fun (x1 : Int32) (x2 : Int32) =>
if x1 = 0 then (
bnd (rdA 348 (XM 0) 0) fun v14 =>
some v14) else if x1 = 1 then (
some (XM 9 0)) else if x1 = 2 then (
some (XM 10 0)) else if x1 = 3 then (
some (XM 11 0)) else if x1 = 4 then (
bnd (rdA 348 (XM 0) 301) fun v25 =>
if v25 = (-1) then (
some (-4)) else (
bnd (rdA 348 (XM 0) 301) fun v29 =>
some v29)) else if x1 = 5 then (
bnd (rdA 348 (XM 0) 301) fun v34 =>
if v34 = (-1) then (
some (-4)) else (
bnd (rdA 348 (XM 0) 302) fun v38 =>
some v38)) else if x1 = 6 then (
bnd (rdA 348 (XM 0) 303) fun v43 =>
some v43) else if x1 = 7 then (
bnd (rdA 348 (XM 0) 309) fun v48 =>
some v48) else if x1 = 8 then (
bnd (rdA 348 (XM 0) 345) fun v53 =>
some v53) else if x1 = 9 then (
bnd (rdA 348 (XM 0) 346) fun v58 =>
some v58) else if x1 = 10 then (
bnd (rdA 348 (XM 0) 347) fun v63 =>
some v63) else if x1 = 11 then (
some (XM 2 0)) else if x1 = 12 then (
some (XM 5 0)) else if x1 = 13 then (
some x2) else (
some (-1))) fun j76 =>
fX6_count_L54 n XM j76 n p1 0 0) else (
bnd (rdA 348 (XM 0) ((330 + p1) - 30)) fun v83 =>
some v83)) else (
bnd (rdA 348 (XM 0) ((333 + p1) - 20)) fun v86 =>
some v86)
def fX6_isSetting  (p0 p1 : Int32) : Option (Int32) :=
sl (fun (x1 : Int32) =>
bnd (fX6_in x1 100 400) fun r1 =>
some r1) fun j60 =>
if p0 = 0 then (
bnd (fX6_in p1 1 50) fun r7 =>
some r7) else if p0 = 1 then (
bnd (fX6_in p1 1 10) fun r14 =>
some r14) else if p0 = 2 then (
j60 p1) else if p0 = 3 then (
j60 p1) else if p0 = 4 then (
bnd (fX6_in p1 100 300) fun r25 =>
some r25) else if p0 = 5 then (
bnd (fX6_in p1 0 50) fun r32 =>
some r32) else if p0 = 6 then (
bnd (fX6_in p1 0 20) fun r39 =>
some r39) else (
some 0)
def fX6_set (n : Nat) (XM : DM) (p1 p2 : Int32) : Option (Int32 × DM) :=
bnd (fX6_isSetting p1 p2) fun r1 =>
if r1 = 0 then (
some ((-1), XM)) else (
bnd (fX6_records n XM) fun X7 =>
bnd (rdA 348 (X7 0) (333 + p1)) fun v9 =>
bnd (wrA 348 (X7 0) (333 + p1) p2) fun f12 =>
sl (va_up X7 0 f12) fun X15 =>
some (v9, X15))
def fX6_speed (n : Nat) (XM : DM) (p1 p2 : Int32) : Option (Int32 × DM) :=
bnd (fX6_in p1 0 2) fun r1 =>
if r1 = 0 then (
some ((-1), XM)) else (
bnd (fX6_in p2 50 400) fun r7 =>
if r7 = 0 then (
some ((-1), XM)) else (
bnd (fX6_records n XM) fun X13 =>
bnd (rdA 348 (X13 0) (330 + p1)) fun v15 =>
bnd (wrA 348 (X13 0) (330 + p1) p2) fun f18 =>
sl (va_up X13 0 f18) fun X21 =>
some (v15, X21)))
def fX6_run (n : Nat) (XM : DM) (p1 : Int32) : Option (Int32 × DM) :=
bnd (fX6_in p1 1 9999) fun r1 =>
if r1 = 0 then (
some ((-1), XM)) else (
bnd (rdA 348 (XM 0) 301) fun v7 =>
if v7 = (-1) then (
some ((-2), XM)) else (
bnd (fX6_records n XM) fun X11 =>
bnd (fX6_goes n X11 p1) fun u16 =>
some (u16.1, u16.2)))
def fX6_asks_L206 (n : Nat) (k239_ : Int32 → DM → Option (DM)) : Nat → Int32 → Int32 → Int32 → DM → Option (DM)
  | 0, _, _, _, _ => none
  | fu + 1, x1, x3, x4, XM =>
    if x1 ≤ x4 then (
    k239_ x3 XM) else (
    bnd (fX6_firstOf n XM x4) fun r31 =>
    sl (fun (x1 : Int32) (x4 : Int32) (k0 : Int32) (XM : DM) =>
    sl (x4 + 1) fun v36 =>
    fX6_asks_L206 n k239_ fu x1 k0 v36 XM) fun j232 =>
    if r31 = (-1) then (
    j232 x1 x4 x3 XM) else (
    bnd (fX6_firstOf n XM x4) fun r39 =>
    j232 x1 x4 r39 XM))
def fX6_asks_L11 (n : Nat) (k57_ : Int32 → Int32 → DM → Option (DM)) : Nat → Int32 → Int32 → Int32 → DM → Option (DM)
  | 0, _, _, _, _ => none
  | fu + 1, x1, x2, x3, XM =>
    bnd (rdA 348 (XM 0) 340) fun v75 =>
    if v75 ≤ x3 then (
    k57_ x1 x2 XM) else (
    sl (fun (x1 : Int32) (x3 : Int32) (k0 : Int32) (XM : DM) =>
    sl (x3 + 1) fun v79 =>
    fX6_asks_L11 n k57_ fu x1 k0 v79 XM) fun j50 =>
    sl (fun (x1 : Int32) (x3 : Int32) (XM : DM) =>
    j50 x1 x3 1 XM) fun j45 =>
    if x2 = 0 then (
    bnd (rdA 348 (XM 0) (341 + x3)) fun v82 =>
    bnd (fX6_classOf XM v82) fun r85 =>
    if r85 = x1 then (
    j45 x1 x3 XM) else (
    j50 x1 x3 0 XM)) else (
    j45 x1 x3 XM))
def fX6_asks_L2 (n : Nat) (k113_ : DM → Option (DM)) : Nat → Int32 → DM → Option (DM)
  | 0, _, _ => none
  | fu + 1, x1, XM =>
    if 3 ≤ x1 then (
    k113_ XM) else (
    sl (fun (x1 : Int32) (x2 : Int32) (XM : DM) =>
    bnd (rdA 348 (XM 0) (330 + x1)) fun v58 =>
    sl (fun (x1 : Int32) (k0 : Int32) (k1 : Int32) (XM : DM) =>
    sl (k0 - k1) fun v61 =>
    sl (fun (x1 : Int32) (k1 : Int32) (k2 : Int32) (XM : DM) =>
    bnd (wrA 348 (XM 0) k1 k2) fun f63 =>
    sl (va_up XM 0 f63) fun X66 =>
    sl (x1 + 1) fun v68 =>
    fX6_asks_L2 n k113_ fu v68 X66) fun j106 =>
    if 50 ≤ v61 then (
    j106 x1 (330 + x1) v61 XM) else (
    j106 x1 (330 + x1) 50 XM)) fun j83 =>
    if x2 = 0 then (
    j83 x1 v58 0 XM) else (
    bnd (rdA 348 (XM 0) 338) fun v72 =>
    j83 x1 v58 v72 XM)) fun j57 =>
    fX6_asks_L11 n j57 n x1 0 0 XM)
def fX6_asks (n : Nat) (XM : DM)  : Option (DM) :=
sl (fun (XM : DM) =>
bnd (wrA 348 (XM 0) 344 1) fun f1 =>
sl (va_up XM 0 f1) fun X4 =>
bnd (rdA 348 (X4 0) 347) fun v6 =>
bnd (wrA 348 (X4 0) 347 (v6 + 1)) fun f9 =>
sl (va_up X4 0 f9) fun X12 =>
bnd (rdA 348 (X12 0) 301) fun v14 =>
sl (fun (k0 : Int32) (XM : DM) =>
bnd (rdA 348 (XM 0) 301) fun v17 =>
sl (fun (x1 : Int32) (k0 : Int32) (XM : DM) =>
bnd (rdA 348 (XM 0) 301) fun v20 =>
sl (fun (x2 : Int32) (XM : DM) =>
bnd (fX6_becomes XM x2) fun X23 =>
some X23) fun j257 =>
if k0 = v20 then (
sl (fun (x3 : Int32) (XM : DM) =>
sl (fun (k0 : Int32) (XM : DM) =>
j257 k0 XM) fun j256 =>
if x3 = (-1) then (
bnd (rdA 348 (XM 0) 301) fun v27 =>
j256 v27 XM) else (
j256 x3 XM)) fun j239 =>
fX6_asks_L206 n j239 n x1 (-1) 0 XM) else (
j257 k0 XM)) fun j188 =>
if v17 = (-1) then (
j188 k0 (-1) XM) else (
bnd (fX6_firstOf n XM k0) fun r45 =>
j188 k0 r45 XM)) fun j166 =>
if v14 = (-1) then (
j166 (X12 10 0) X12) else (
bnd (rdA 348 (X12 0) 301) fun v51 =>
bnd (rdA 151 (X12 17) v51) fun v54 =>
j166 v54 X12)) fun j113 =>
fX6_asks_L2 n j113 n 0 XM
def fX6_back (n : Nat) (XM : DM)  : Option (Int32 × DM) :=
bnd (fX6_firstShown n XM) fun r1 =>
if r1 = (-1) then (
some ((-2), XM)) else (
bnd (fX6_records n XM) fun X7 =>
bnd (fX6_asks n X7) fun X9 =>
bnd (rdA 348 (X9 0) 301) fun v11 =>
some (v11, X9))
def fX6_canJump (n : Nat) (XM : DM) (p1 : Int32) : Option (Int32) :=
bnd (fX6_isSentence XM p1) fun r1 =>
if r1 = 0 then (
some 0) else (
bnd (fX6_firstOf n XM p1) fun r7 =>
if r7 = (-1) then (
some 0) else (
bnd (rdA 348 (XM 0) 301) fun v13 =>
if v13 = (-1) then (
some 0) else (
some 1)))
def fX6_jumps_L14 (n : Nat) (k47_ : Int32 → DM → Option (DM)) : Nat → Int32 → Int32 → DM → Option (DM)
  | 0, _, _, _ => none
  | fu + 1, x1, x2, XM =>
    if 4 ≤ x2 then (
    k47_ x1 XM) else (
    bnd (rdA 348 (XM 0) ((304 + x2) + 1)) fun v45 =>
    bnd (wrA 348 (XM 0) (304 + x2) v45) fun f48 =>
    sl (va_up XM 0 f48) fun X51 =>
    sl (x2 + 1) fun v53 =>
    fX6_jumps_L14 n k47_ fu x1 v53 X51)
def fX6_jumps (n : Nat) (XM : DM) (p1 : Int32) : Option (DM) :=
bnd (rdA 348 (XM 0) 303) fun v1 =>
sl (fun (x1 : Int32) (XM : DM) =>
bnd (rdA 348 (XM 0) 303) fun v4 =>
bnd (rdA 348 (XM 0) 301) fun v7 =>
bnd (wrA 348 (XM 0) (304 + v4) v7) fun f10 =>
sl (va_up XM 0 f10) fun X13 =>
bnd (rdA 348 (X13 0) 303) fun v15 =>
bnd (wrA 348 (X13 0) 303 (v15 + 1)) fun f18 =>
sl (va_up X13 0 f18) fun X21 =>
bnd (wrA 348 (X21 0) 344 0) fun f23 =>
sl (va_up X21 0 f23) fun X26 =>
bnd (fX6_firstOf n X26 x1) fun r28 =>
bnd (fX6_becomes X26 r28) fun X33 =>
some X33) fun j59 =>
if v1 = 5 then (
sl (fun (x1 : Int32) (XM : DM) =>
bnd (rdA 348 (XM 0) 303) fun v36 =>
bnd (wrA 348 (XM 0) 303 (v36 - 1)) fun f39 =>
sl (va_up XM 0 f39) fun X42 =>
j59 x1 X42) fun j47 =>
fX6_jumps_L14 n j47 n p1 0 XM) else (
j59 p1 XM)
def fX6_jump (n : Nat) (XM : DM) (p1 : Int32) : Option (Int32 × DM) :=
bnd (fX6_isSentence XM p1) fun r1 =>
if r1 = 0 then (
some ((-1), XM)) else (
bnd (fX6_canJump n XM p1) fun r7 =>
if r7 = 0 then (
some ((-2), XM)) else (
bnd (fX6_records n XM) fun X13 =>
bnd (fX6_jumps n X13 p1) fun X15 =>
bnd (rdA 348 (X15 0) 301) fun v17 =>
some (v17, X15)))
def fX6_returns (XM : DM)  : Option (DM) :=
bnd (rdA 348 (XM 0) 303) fun v1 =>
bnd (wrA 348 (XM 0) 303 (v1 - 1)) fun f4 =>
sl (va_up XM 0 f4) fun X7 =>
bnd (wrA 348 (X7 0) 344 0) fun f9 =>
sl (va_up X7 0 f9) fun X12 =>
bnd (rdA 348 (X12 0) 303) fun v14 =>
bnd (rdA 348 (X12 0) (304 + v14)) fun v17 =>
bnd (fX6_becomes X12 v17) fun X20 =>
some X20
def fX6_goBack (n : Nat) (XM : DM)  : Option (Int32 × DM) :=
bnd (rdA 348 (XM 0) 303) fun v1 =>
if v1 = 0 then (
some ((-2), XM)) else (
bnd (fX6_records n XM) fun X5 =>
bnd (fX6_returns X5) fun X7 =>
bnd (rdA 348 (X7 0) 301) fun v9 =>
some (v9, X7))
def fX6_keeps_L2 (n : Nat)  : Nat → Int32 → DM → Option (DM)
  | 0, _, _ => none
  | fu + 1, x1, XM =>
    if 348 ≤ x1 then (
    some XM) else (
    bnd (rdA 348 (XM 0) x1) fun v2 =>
    bnd (wrA 348 (XM 3) x1 v2) fun f5 =>
    sl (va_up XM 3 f5) fun X8 =>
    sl (x1 + 1) fun v10 =>
    fX6_keeps_L2 n fu v10 X8)
def fX6_keeps (n : Nat) (XM : DM)  : Option (DM) :=
fX6_keeps_L2 n n 0 XM
def fX6_restores_L2 (n : Nat)  : Nat → Int32 → DM → Option (DM)
  | 0, _, _ => none
  | fu + 1, x1, XM =>
    if 348 ≤ x1 then (
    some XM) else (
    bnd (rdA 348 (XM 3) x1) fun v2 =>
    bnd (wrA 348 (XM 0) x1 v2) fun f5 =>
    sl (va_up XM 0 f5) fun X8 =>
    sl (x1 + 1) fun v10 =>
    fX6_restores_L2 n fu v10 X8)
def fX6_restores (n : Nat) (XM : DM)  : Option (DM) :=
fX6_restores_L2 n n 0 XM
def fX6_ifRun (n : Nat) (XM : DM) (p1 : Int32) : Option (Int32 × DM) :=
bnd (fX6_in p1 1 9999) fun r1 =>
if r1 = 0 then (
some ((-1), XM)) else (
bnd (rdA 348 (XM 0) 301) fun v7 =>
if v7 = (-1) then (
some ((-2), XM)) else (
bnd (fX6_keeps n XM) fun X11 =>
bnd (fX6_goes n X11 p1) fun u16 =>
bnd (rdA 348 (u16.2 0) 301) fun v20 =>
bnd (fX6_restores n u16.2) fun X23 =>
if v20 = (-1) then (
some ((-4), X23)) else (
some (v20, X23))))
def fX6_left_L21 (n : Nat) (k60_ : Int32 → DM → Option (Int32 × DM)) : Nat → Int32 → DM → Option (Int32 × DM)
  | 0, _, _ => none
  | fu + 1, x1, XM =>
    bnd (rdA 348 (XM 0) 301) fun v9 =>
    if v9 = (-1) then (
    k60_ x1 XM) else (
    bnd (rdA 348 (XM 0) 302) fun v13 =>
    sl (x1 + v13) fun v16 =>
    bnd (rdA 348 (XM 0) 302) fun v18 =>
    bnd (fX6_goes n XM v18) fun u24 =>
    fX6_left_L21 n k60_ fu v16 u24.2)
def fX6_left (n : Nat) (XM : DM)  : Option (Int32 × DM) :=
bnd (rdA 348 (XM 0) 301) fun v1 =>
if v1 = (-1) then (
some ((-2), XM)) else (
bnd (fX6_keeps n XM) fun X5 =>
sl (fun (x1 : Int32) (XM : DM) =>
bnd (fX6_restores n XM) fun X7 =>
some (x1, X7)) fun j60 =>
fX6_left_L21 n j60 n 0 X5)
def fX6_undo_L22 (n : Nat) (k56_ : DM → Option (Int32 × DM)) : Nat → Int32 → DM → Option (Int32 × DM)
  | 0, _, _ => none
  | fu + 1, x1, XM =>
    if 348 ≤ x1 then (
    k56_ XM) else (
    bnd (rdA 1392 (XM 1) ((348 * (XM 2 0)) + x1)) fun v7 =>
    bnd (wrA 348 (XM 0) x1 v7) fun f10 =>
    sl (va_up XM 0 f10) fun X13 =>
    sl (x1 + 1) fun v15 =>
    fX6_undo_L22 n k56_ fu v15 X13)
def fX6_undo (n : Nat) (XM : DM)  : Option (Int32 × DM) :=
if (XM 2 0) = 0 then (
some ((-2), XM)) else (
sl (va_up XM 2 (fun _ => ((XM 2 0) - 1))) fun X2 =>
sl (fun (XM : DM) =>
bnd (fX6_parses n XM) fun X4 =>
some ((X4 2 0), X4)) fun j56 =>
fX6_undo_L22 n j56 n 0 X2)
def fX6_canNote (n : Nat) (XM : DM) (p1 : Int32) : Option (Int32) :=
bnd (fX6_isShown XM p1) fun r1 =>
if r1 = 0 then (
some 0) else (
bnd (fX6_noteOf n XM p1) fun r7 =>
if r7 = (-1) then (
bnd (rdA 348 (XM 0) 309) fun v13 =>
if 10 ≤ v13 then (
some 0) else (
some 1)) else (
some 1))
def fX6_notes (n : Nat) (XM : DM) (p1 p2 : Int32) : Option (DM) :=
bnd (fX6_noteOf n XM p1) fun r1 =>
sl (fun (x1 : Int32) (x2 : Int32) (x3 : Int32) (XM : DM) =>
bnd (wrA 348 (XM 0) (310 + x3) x1) fun f6 =>
sl (va_up XM 0 f6) fun X9 =>
bnd (wrA 348 (X9 0) (320 + x3) x2) fun f11 =>
sl (va_up X9 0 f11) fun X14 =>
some X14) fun j32 =>
if r1 = (-1) then (
bnd (rdA 348 (XM 0) 309) fun v17 =>
bnd (rdA 348 (XM 0) 309) fun v20 =>
bnd (wrA 348 (XM 0) 309 (v20 + 1)) fun f23 =>
sl (va_up XM 0 f23) fun X26 =>
j32 p1 p2 v17 X26) else (
j32 p1 p2 r1 XM)
def fX6_note (n : Nat) (XM : DM) (p1 p2 : Int32) : Option (Int32 × DM) :=
bnd (fX6_isWord XM p1) fun r1 =>
if r1 = 0 then (
some ((-1), XM)) else (
bnd (fX6_in p2 1 99) fun r7 =>
if r7 = 0 then (
some ((-1), XM)) else (
bnd (fX6_canNote n XM p1) fun r13 =>
if r13 = 0 then (
bnd (fX6_isShown XM p1) fun r26 =>
if r26 = 0 then (
some ((-2), XM)) else (
some ((-3), XM))) else (
bnd (fX6_records n XM) fun X19 =>
bnd (fX6_notes n X19 p1 p2) fun X21 =>
bnd (rdA 348 (X21 0) 309) fun v23 =>
some (v23, X21))))
def fX6_unnote (n : Nat) (XM : DM) (p1 : Int32) : Option (Int32 × DM) :=
bnd (fX6_isWord XM p1) fun r1 =>
if r1 = 0 then (
some ((-1), XM)) else (
bnd (fX6_noteOf n XM p1) fun r7 =>
if r7 = (-1) then (
some ((-4), XM)) else (
bnd (fX6_records n XM) fun X13 =>
bnd (rdA 348 (X13 0) (320 + r7)) fun v15 =>
bnd (rdA 348 (X13 0) 309) fun v18 =>
bnd (wrA 348 (X13 0) 309 (v18 - 1)) fun f21 =>
sl (va_up X13 0 f21) fun X24 =>
bnd (rdA 348 (X24 0) 309) fun v26 =>
bnd (rdA 348 (X24 0) (310 + v26)) fun v29 =>
bnd (wrA 348 (X24 0) (310 + r7) v29) fun f32 =>
sl (va_up X24 0 f32) fun X35 =>
bnd (rdA 348 (X35 0) 309) fun v37 =>
bnd (rdA 348 (X35 0) (320 + v37)) fun v40 =>
bnd (wrA 348 (X35 0) (320 + r7) v40) fun f43 =>
sl (va_up X35 0 f43) fun X46 =>
some (v15, X46)))
def fX6_noted_L21 (n : Nat) (XM : DM)  : Nat → Int32 → Int32 → Int32 → Int32 → Option (Int32)
  | 0, _, _, _, _ => none
  | fu + 1, x1, x2, x3, x4 =>
    bnd (rdA 348 (XM 0) 309) fun v8 =>
    if v8 ≤ x4 then (
    some x3) else (
    bnd (rdA 348 (XM 0) (310 + x4)) fun v12 =>
    sl (fun (x1 : Int32) (x2 : Int32) (x3 : Int32) (x4 : Int32) (x5 : Int32) (k0 : Int32) =>
    sl (fun (x1 : Int32) (x2 : Int32) (x4 : Int32) (k0 : Int32) =>
    sl (x4 + 1) fun v15 =>
    fX6_noted_L21 n XM fu x1 x2 k0 v15) fun j105 =>
    if k0 = 0 then (
    j105 x1 x2 x4 x3) else (
    j105 x1 x2 x4 x5)) fun j92 =>
    if x2 = 0 then (
    sl (fun (x1 : Int32) (x2 : Int32) (x3 : Int32) (x4 : Int32) (x5 : Int32) =>
    j92 x1 x2 x3 x4 x5 0) fun j71 =>
    if v12 < x1 then (
    j71 x1 x2 x3 x4 v12) else (
    sl (fun (x1 : Int32) (x2 : Int32) (x3 : Int32) (x4 : Int32) (x5 : Int32) =>
    j92 x1 x2 x3 x4 x5 1) fun j67 =>
    if x3 < 0 then (
    j67 x1 x2 x3 x4 v12) else (
    if x3 ≤ v12 then (
    j71 x1 x2 x3 x4 v12) else (
    j67 x1 x2 x3 x4 v12)))) else (
    sl (fun (x1 : Int32) (x2 : Int32) (x3 : Int32) (x4 : Int32) (x5 : Int32) =>
    j92 x1 x2 x3 x4 x5 0) fun j91 =>
    if x1 ≤ v12 then (
    j91 x1 x2 x3 x4 v12) else (
    if v12 ≤ x3 then (
    j91 x1 x2 x3 x4 v12) else (
    j92 x1 x2 x3 x4 v12 1))))
def fX6_noted (n : Nat) (XM : DM) (p1 p2 : Int32) : Option (Int32) :=
if p1 < 0 then (
some (-1)) else (
bnd (fX6_in p2 0 1) fun r2 =>
if r2 = 0 then (
some (-1)) else (
fX6_noted_L21 n XM n p1 p2 (-4) 0))
def fX6_longest_L21 (n : Nat) (XM : DM) (k87_ : Int32 → Int32 → Int32 → Option (Int32)) : Nat → Int32 → Int32 → Int32 → Int32 → Option (Int32)
  | 0, _, _, _, _ => none
  | fu + 1, x1, x2, x3, x4 =>
    if (XM 9 0) ≤ x4 then (
    k87_ x1 x2 x3) else (
    bnd (fX6_isShown XM x4) fun r13 =>
    sl (fun (x1 : Int32) (x2 : Int32) (x4 : Int32) (k0 : Int32) (k1 : Int32) =>
    sl (k0 + k1) fun v18 =>
    sl (x4 + 1) fun v20 =>
    fX6_longest_L21 n XM k87_ fu x1 x2 v18 v20) fun j79 =>
    sl (fun (x1 : Int32) (x2 : Int32) (x4 : Int32) (k0 : Int32) =>
    j79 x1 x2 x4 k0 0) fun j78 =>
    if r13 = 0 then (
    j78 x1 x2 x4 x3) else (
    bnd (fX6_timeOf XM x4) fun r23 =>
    bnd (fX6_timeOf XM x2) fun r28 =>
    sl (fun (x1 : Int32) (x2 : Int32) (x4 : Int32) (k0 : Int32) =>
    j79 x1 x2 x4 k0 1) fun j74 =>
    if r28 < r23 then (
    j74 x1 x2 x4 x3) else (
    bnd (fX6_timeOf XM x4) fun r34 =>
    bnd (fX6_timeOf XM x2) fun r39 =>
    if r34 = r39 then (
    if x2 ≤ x4 then (
    j78 x1 x2 x4 x3) else (
    j74 x1 x2 x4 x3)) else (
    j78 x1 x2 x4 x3))))
def fX6_longest_L8 (n : Nat) (XM : DM)  : Nat → Int32 → Int32 → Option (Int32)
  | 0, _, _ => none
  | fu + 1, x1, x2 =>
    if (XM 9 0) ≤ x2 then (
    some (-4)) else (
    sl (fun (x1 : Int32) (x2 : Int32) (x3 : Int32) =>
    bnd (fX6_isShown XM x2) fun r3 =>
    sl (fun (x1 : Int32) (x2 : Int32) =>
    sl (x2 + 1) fun v8 =>
    fX6_longest_L8 n XM fu x1 v8) fun j102 =>
    if r3 = 0 then (
    j102 x1 x2) else (
    if x3 = x1 then (
    some x2) else (
    j102 x1 x2))) fun j87 =>
    fX6_longest_L21 n XM j87 n x1 x2 0 0)
def fX6_longest (n : Nat) (XM : DM) (p1 : Int32) : Option (Int32) :=
if 0 ≤ p1 then (
fX6_longest_L8 n XM n p1 0) else (
some (-1))
def fX6_speedFor_L36 (n : Nat) (XM : DM) (k78_ : Int32 → Int32 → Int32 → Int32 → Option (Int32)) : Nat → Int32 → Int32 → Int32 → Int32 → Int32 → Option (Int32)
  | 0, _, _, _, _, _ => none
  | fu + 1, x1, x2, x3, x4, x5 =>
    if (XM 9 0) ≤ x5 then (
    k78_ x1 x2 x3 x4) else (
    bnd (rdA 151 (XM 18) x5) fun v18 =>
    sl (fun (x1 : Int32) (x2 : Int32) (x3 : Int32) (x5 : Int32) (k0 : Int32) (k1 : Int32) =>
    sl (k0 + k1) fun v21 =>
    sl (x5 + 1) fun v23 =>
    fX6_speedFor_L36 n XM k78_ fu x1 x2 x3 v21 v23) fun j69 =>
    if v18 = x1 then (
    bnd (fX6_timeBy XM x5 x3) fun r26 =>
    j69 x1 x2 x3 x5 x4 r26) else (
    j69 x1 x2 x3 x5 x4 0))
def fX6_speedFor_L23 (n : Nat) (XM : DM)  : Nat → Int32 → Int32 → Int32 → Option (Int32)
  | 0, _, _, _ => none
  | fu + 1, x1, x2, x3 =>
    if 400 < x3 then (
    some (-4)) else (
    sl (fun (x1 : Int32) (x2 : Int32) (x3 : Int32) (x4 : Int32) =>
    if x2 < x4 then (
    sl (x3 + 1) fun v15 =>
    fX6_speedFor_L23 n XM fu x1 x2 v15) else (
    some x3)) fun j78 =>
    fX6_speedFor_L36 n XM j78 n x1 x2 x3 0 0)
def fX6_speedFor (n : Nat) (XM : DM) (p1 p2 : Int32) : Option (Int32) :=
bnd (fX6_isPage XM p1) fun r1 =>
if r1 = 0 then (
some (-1)) else (
bnd (fX6_in p2 0 100000) fun r7 =>
if r7 = 0 then (
some (-1)) else (
fX6_speedFor_L23 n XM n p1 p2 50))
def fX6_order (XM : DM) (p1 : Int32) : Option (Int32 × DM) :=
bnd (fX6_in p1 32 126) fun r1 =>
if r1 = 0 then (
some ((-1), XM)) else (
if (XM 5 0) = 60 then (
some ((-3), XM)) else (
bnd (wrA 60 (XM 4) (XM 5 0) (vp_nar .char ((p1.toUInt32 % 65536).toInt32))) fun f8 =>
sl (va_up XM 4 f8) fun X11 =>
sl (va_up X11 5 (fun _ => ((X11 5 0) + 1))) fun X13 =>
some ((X13 5 0), X13)))
def fX6_clearOrders (XM : DM)  : Option (Int32 × DM) :=
sl (va_up XM 5 (fun _ => 0)) fun X1 =>
some ((XM 5 0), X1)
def fX6_readsNumber_L10 (n : Nat) (k83_ : Int32 → Int32 → Int32 → DM → Option (Int32 × DM)) : Nat → Int32 → Int32 → Int32 → DM → Option (Int32 × DM)
  | 0, _, _, _, _ => none
  | fu + 1, x1, x2, x3, XM =>
    if (XM 5 0) ≤ (XM 6 0) then (
    k83_ x1 x2 x3 XM) else (
    if (x3 + 3) ≤ (XM 6 0) then (
    k83_ x1 x2 x3 XM) else (
    bnd (rdA 60 (XM 4) (XM 6 0)) fun v12 =>
    bnd (fX6_isFigure v12) fun r15 =>
    if r15 = 0 then (
    k83_ x1 x2 x3 XM) else (
    bnd (rdA 60 (XM 4) (XM 6 0)) fun v21 =>
    sl (va_up XM 8 (fun _ => (((10 * (XM 8 0)) + v21) - 48))) fun X24 =>
    sl (va_up X24 6 (fun _ => ((X24 6 0) + 1))) fun X26 =>
    fX6_readsNumber_L10 n k83_ fu x1 x2 x3 X26)))
def fX6_readsNumber (n : Nat) (XM : DM) (p1 p2 : Int32) : Option (Int32 × DM) :=
sl (va_up XM 8 (fun _ => 0)) fun X1 =>
sl (fun (x1 : Int32) (x2 : Int32) (x3 : Int32) (XM : DM) =>
if (XM 6 0) ≤ x3 then (
some (0, XM)) else (
bnd (fX6_in (XM 8 0) x1 x2) fun r4 =>
if r4 = 0 then (
some (0, XM)) else (
some (1, XM)))) fun j83 =>
fX6_readsNumber_L10 n j83 n p1 p2 (XM 6 0) X1
def fX6_readsOrder (n : Nat) (XM : DM)  : Option (Int32 × DM) :=
bnd (rdA 60 (XM 4) (XM 6 0)) fun v1 =>
sl (va_up XM 7 (fun _ => v1)) fun X4 =>
sl (va_up X4 6 (fun _ => ((X4 6 0) + 1))) fun X6 =>
sl (fun (k0 : Int32) (XM : DM) =>
if k0 = 0 then (
some (0, XM)) else (
if (XM 5 0) ≤ (XM 6 0) then (
some (0, XM)) else (
bnd (rdA 60 (XM 4) (XM 6 0)) fun v10 =>
if v10 = 59 then (
sl (va_up XM 6 (fun _ => ((XM 6 0) + 1))) fun X14 =>
some (1, X14)) else (
some (0, XM))))) fun j105 =>
sl (fun (XM : DM) =>
j105 1 XM) fun j100 =>
if (X6 7 0) = 98 then (
j100 X6) else (
if (X6 7 0) = 117 then (
j100 X6) else (
sl (fun (XM : DM) =>
sl (fun (XM : DM) =>
sl (fun (XM : DM) =>
j105 0 XM) fun j104 =>
if (XM 7 0) = 110 then (
bnd (fX6_readsNumber n XM 1 99) fun u22 =>
if u22.1 = 0 then (
j104 u22.2) else (
j100 u22.2)) else (
j104 XM)) fun j81 =>
if (XM 7 0) = 106 then (
bnd (fX6_readsNumber n XM 0 999) fun u31 =>
if u31.1 = 0 then (
j81 u31.2) else (
j100 u31.2)) else (
j81 XM)) fun j61 =>
if (X6 7 0) = 114 then (
bnd (fX6_readsNumber n X6 1 999) fun u40 =>
if u40.1 = 0 then (
j61 u40.2) else (
j100 u40.2)) else (
j61 X6)))
def fX6_fault_L5 (n : Nat)  : Nat → DM → Option (Int32 × DM)
  | 0, _ => none
  | fu + 1, XM =>
    if (XM 5 0) ≤ (XM 6 0) then (
    some ((-4), XM)) else (
    bnd (fX6_readsOrder n XM) fun u7 =>
    if u7.1 = 0 then (
    some ((XM 6 0), u7.2)) else (
    fX6_fault_L5 n fu u7.2))
def fX6_fault (n : Nat) (XM : DM)  : Option (Int32 × DM) :=
sl (va_up XM 6 (fun _ => 0)) fun X1 =>
fX6_fault_L5 n n X1
def fX6_carries (n : Nat) (XM : DM)  : Option (Int32 × DM) :=
if (XM 7 0) = 98 then (
bnd (fX6_firstShown n XM) fun r2 =>
if r2 = (-1) then (
some (0, XM)) else (
bnd (fX6_asks n XM) fun X8 =>
some (1, X8))) else if (XM 7 0) = 106 then (
bnd (fX6_canJump n XM (XM 8 0)) fun r12 =>
if r12 = 0 then (
some (0, XM)) else (
bnd (fX6_jumps n XM (XM 8 0)) fun X18 =>
some (1, X18))) else if (XM 7 0) = 114 then (
bnd (rdA 348 (XM 0) 301) fun v22 =>
if v22 = (-1) then (
some (0, XM)) else (
bnd (fX6_goes n XM (XM 8 0)) fun u29 =>
some (1, u29.2))) else if (XM 7 0) = 117 then (
bnd (rdA 348 (XM 0) 303) fun v35 =>
if v35 = 0 then (
some (0, XM)) else (
bnd (fX6_returns XM) fun X39 =>
some (1, X39))) else (
bnd (rdA 348 (XM 0) 301) fun v42 =>
if v42 = (-1) then (
some (0, XM)) else (
bnd (rdA 348 (XM 0) 301) fun v46 =>
bnd (fX6_canNote n XM v46) fun r49 =>
if r49 = 0 then (
some (0, XM)) else (
bnd (rdA 348 (XM 0) 301) fun v55 =>
bnd (fX6_notes n XM v55 (XM 8 0)) fun X58 =>
some (1, X58))))
def fX6_carry_L25 (n : Nat)  : Nat → Int32 → Int32 → DM → Option (Int32 × DM)
  | 0, _, _, _ => none
  | fu + 1, x1, x2, XM =>
    if x2 = 0 then (
    some (x1, XM)) else (
    if (XM 5 0) ≤ (XM 6 0) then (
    some (x1, XM)) else (
    bnd (fX6_readsOrder n XM) fun u18 =>
    bnd (fX6_carries n u18.2) fun u25 =>
    sl u25.1 fun v29 =>
    sl (fun (x2 : Int32) (k0 : Int32) (k1 : Int32) (XM : DM) =>
    sl (k0 + k1) fun v31 =>
    fX6_carry_L25 n fu v31 x2 XM) fun j60 =>
    if v29 = 0 then (
    j60 v29 x1 0 u25.2) else (
    j60 v29 x1 1 u25.2)))
def fX6_carry (n : Nat) (XM : DM)  : Option (Int32 × DM) :=
bnd (fX6_fault n XM) fun u4 =>
if u4.1 = (-4) then (
bnd (fX6_records n u4.2) fun X9 =>
sl (va_up X9 6 (fun _ => 0)) fun X11 =>
fX6_carry_L25 n n 0 1 X11) else (
some ((-2), u4.2))
