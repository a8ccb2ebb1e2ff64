def fL_sign  (p0 : Int32) : Option (Int32) :=
bnd (dvA p0 9) fun v1 =>
bnd (rmA p0 9) fun v4 =>
if 3 ≤ v4 then (
bnd (rmA p0 9) fun v8 =>
if v8 = 3 then (
some 33) else (
bnd (rmA p0 9) fun v12 =>
sl (fun (x0 : Int32) (x1 : Int32) =>
bnd (rmA x0 9) fun v15 =>
sl (fun (x0 : Int32) (x1 : Int32) =>
bnd (rmA x0 9) fun v18 =>
if v18 = 6 then (
bnd (rmA x1 10) fun v25 =>
some (48 + v25)) else (
bnd (rmA x1 26) fun v22 =>
some (65 + v22))) fun j69 =>
if v15 = 5 then (
bnd (rmA x1 2) fun v29 =>
if v29 = 0 then (
some 59) else (
j69 x0 x1)) else (
j69 x0 x1)) fun j50 =>
if v12 = 4 then (
bnd (rmA v1 2) fun v34 =>
if v34 = 0 then (
some 124) else (
j50 p0 v1)) else (
j50 p0 v1))) else (
some 32)
def fL_holds_L400 (n : Nat) (XF : DM) (XN : DM) (XW : DM) (XP : DM) (XQ : DM) (XO : DM) (XH : HD) (k453_ : Int32 → Int32 → Int32 → Int32 → Int32 → Option (Int32)) : Nat → Int32 → Int32 → Int32 → Int32 → Int32 → Int32 → Option (Int32)
  | 0, _, _, _, _, _, _ => none
  | fu + 1, x2, x3, x4, x5, x6, x7 =>
    if 3 ≤ x7 then (
    k453_ x2 x3 x4 x5 x6) else (
    sl (fun (x2 : Int32) (x3 : Int32) (x5 : Int32) (x6 : Int32) (x7 : Int32) (k0 : Int32) =>
    sl (x7 + 1) fun v50 =>
    fL_holds_L400 n XF XN XW XP XQ XO XH k453_ fu x2 x3 k0 x5 x6 v50) fun j445 =>
    sl (fun (x2 : Int32) (x3 : Int32) (x5 : Int32) (x6 : Int32) (x7 : Int32) =>
    j445 x2 x3 x5 x6 x7 0) fun j444 =>
    if x4 = 0 then (
    j444 x2 x3 x5 x6 x7) else (
    bnd (fX5_count n XF XN XW XP XQ XO XH (30 + x7)) fun r53 =>
    if r53 < 50 then (
    j444 x2 x3 x5 x6 x7) else (
    bnd (fX5_count n XF XN XW XP XQ XO XH (30 + x7)) fun r59 =>
    if 400 < r59 then (
    j444 x2 x3 x5 x6 x7) else (
    j445 x2 x3 x5 x6 x7 1))))
def fL_holds_L369 (n : Nat) (XF : DM) (XN : DM) (XW : DM) (XP : DM) (XQ : DM) (XO : DM) (XH : HD) (k397_ : Int32 → Int32 → Int32 → Int32 → Int32 → Option (Int32)) : Nat → Int32 → Int32 → Int32 → Int32 → Int32 → Int32 → Option (Int32)
  | 0, _, _, _, _, _, _ => none
  | fu + 1, x2, x3, x4, x5, x6, x7 =>
    bnd (fX5_count n XF XN XW XP XQ XO XH 2) fun r65 =>
    if r65 ≤ x7 then (
    k397_ x2 x3 x4 x5 x6) else (
    bnd (fX5_sentence n XF XN XW XP x7 2) fun r71 =>
    sl (x6 + r71) fun v76 =>
    sl (x7 + 1) fun v78 =>
    fL_holds_L369 n XF XN XW XP XQ XO XH k397_ fu x2 x3 x4 x5 v76 v78)
def fL_holds_L335 (n : Nat) (XF : DM) (XN : DM) (XW : DM) (XP : DM) (XQ : DM) (XO : DM) (XH : HD) (k363_ : Int32 → Int32 → Int32 → Int32 → Option (Int32)) : Nat → Int32 → Int32 → Int32 → Int32 → Int32 → Option (Int32)
  | 0, _, _, _, _, _ => none
  | fu + 1, x2, x3, x4, x5, x6 =>
    bnd (fX5_count n XF XN XW XP XQ XO XH 3) fun r80 =>
    if r80 ≤ x6 then (
    k363_ x2 x3 x4 x5) else (
    bnd (fX5_page n XF XN XW XP XQ x6 2) fun r86 =>
    sl (x5 + r86) fun v91 =>
    sl (x6 + 1) fun v93 =>
    fL_holds_L335 n XF XN XW XP XQ XO XH k363_ fu x2 x3 x4 v91 v93)
def fL_holds_L54 (n : Nat) (XF : DM) (XN : DM) (XW : DM) (XP : DM) (XQ : DM) (XO : DM) (XH : HD) (k329_ : Int32 → Int32 → Int32 → Option (Int32)) : Nat → Int32 → Int32 → Int32 → Int32 → Int32 → Option (Int32)
  | 0, _, _, _, _, _ => none
  | fu + 1, x1, x2, x3, x4, x5 =>
    if x1 ≤ x5 then (
    k329_ x2 x3 x4) else (
    if x4 = 0 then (
    k329_ x2 x3 x4) else (
    bnd (fX5_word XF XN XW XP XQ x5 4) fun r97 =>
    bnd (fX5_word XF XN XW XP XQ x5 8) fun r102 =>
    sl (x2 + r102) fun v107 =>
    bnd (fX5_word XF XN XW XP XQ x5 1) fun r109 =>
    sl (x3 + r109) fun v114 =>
    sl (fun (x1 : Int32) (x2 : Int32) (x3 : Int32) (x5 : Int32) (x6 : Int32) (k0 : Int32) =>
    bnd (fX5_word XF XN XW XP XQ x5 8) fun r116 =>
    sl (fun (x1 : Int32) (x2 : Int32) (x3 : Int32) (x5 : Int32) (x6 : Int32) (k0 : Int32) (k1 : Int32) =>
    sl (fun (x1 : Int32) (x2 : Int32) (x3 : Int32) (x5 : Int32) (x6 : Int32) (k0 : Int32) =>
    sl (fun (x1 : Int32) (x2 : Int32) (x3 : Int32) (x5 : Int32) (k0 : Int32) =>
    sl (x5 + 1) fun v121 =>
    fL_holds_L54 n XF XN XW XP XQ XO XH k329_ fu x1 x2 x3 k0 v121) fun j321 =>
    sl (fun (x1 : Int32) (x2 : Int32) (x3 : Int32) (x5 : Int32) =>
    j321 x1 x2 x3 x5 0) fun j320 =>
    if k0 = 0 then (
    j320 x1 x2 x3 x5) else (
    sl (fun (x1 : Int32) (x2 : Int32) (x3 : Int32) (x5 : Int32) =>
    bnd (fX5_word XF XN XW XP XQ x5 3) fun r124 =>
    bnd (fX5_word XF XN XW XP XQ x5 2) fun r129 =>
    sl (fun (x1 : Int32) (x2 : Int32) (x3 : Int32) (x5 : Int32) (k0 : Int32) (k1 : Int32) =>
    if k0 = k1 then (
    j321 x1 x2 x3 x5 1) else (
    j320 x1 x2 x3 x5)) fun j313 =>
    if 5 ≤ r129 then (
    bnd (fX5_word XF XN XW XP XQ x5 2) fun r136 =>
    if 9 ≤ r136 then (
    j313 x1 x2 x3 x5 r124 2) else (
    j313 x1 x2 x3 x5 r124 1)) else (
    j313 x1 x2 x3 x5 r124 0)) fun j274 =>
    if x6 < 3 then (
    j274 x1 x2 x3 x5) else (
    bnd (fX5_word XF XN XW XP XQ x5 9) fun r143 =>
    if r143 = 0 then (
    j274 x1 x2 x3 x5) else (
    j320 x1 x2 x3 x5)))) fun j250 =>
    sl (fun (x1 : Int32) (x2 : Int32) (x3 : Int32) (x5 : Int32) (x6 : Int32) =>
    j250 x1 x2 x3 x5 x6 0) fun j249 =>
    if k0 = k1 then (
    bnd (fX5_word XF XN XW XP XQ x5 7) fun r150 =>
    bnd (fX5_count n XF XN XW XP XQ XO XH 21) fun r155 =>
    if r150 < r155 then (
    j249 x1 x2 x3 x5 x6) else (
    bnd (fX5_word XF XN XW XP XQ x5 2) fun r161 =>
    bnd (fX5_word XF XN XW XP XQ x5 1) fun r166 =>
    if r166 < r161 then (
    j249 x1 x2 x3 x5 x6) else (
    bnd (fX5_word XF XN XW XP XQ x5 10) fun r172 =>
    sl (fun (x1 : Int32) (x2 : Int32) (x3 : Int32) (x5 : Int32) (x6 : Int32) (k0 : Int32) =>
    bnd (fX5_word XF XN XW XP XQ x5 2) fun r177 =>
    sl (fun (x1 : Int32) (x2 : Int32) (x3 : Int32) (x5 : Int32) (x6 : Int32) (k0 : Int32) (k1 : Int32) =>
    if k0 = k1 then (
    bnd (fX5_word XF XN XW XP XQ x5 10) fun r183 =>
    bnd (fX5_word XF XN XW XP XQ x5 1) fun r188 =>
    if r188 ≤ r183 then (
    j249 x1 x2 x3 x5 x6) else (
    sl (fun (x1 : Int32) (x2 : Int32) (x3 : Int32) (x5 : Int32) (x6 : Int32) =>
    j250 x1 x2 x3 x5 x6 1) fun j245 =>
    if x5 = 0 then (
    j245 x1 x2 x3 x5 x6) else (
    bnd (fX5_word XF XN XW XP XQ x5 0) fun r195 =>
    bnd (fX5_word XF XN XW XP XQ (x5 - 1) 0) fun r200 =>
    bnd (fX5_word XF XN XW XP XQ (x5 - 1) 1) fun r205 =>
    if r195 ≤ (r200 + r205) then (
    j249 x1 x2 x3 x5 x6) else (
    j245 x1 x2 x3 x5 x6)))) else (
    j249 x1 x2 x3 x5 x6)) fun j190 =>
    if r177 = 0 then (
    j190 x1 x2 x3 x5 x6 k0 1) else (
    j190 x1 x2 x3 x5 x6 k0 0)) fun j175 =>
    if 0 ≤ r172 then (
    j175 x1 x2 x3 x5 x6 0) else (
    j175 x1 x2 x3 x5 x6 1)))) else (
    j249 x1 x2 x3 x5 x6)) fun j122 =>
    if r116 = 0 then (
    j122 x1 x2 x3 x5 x6 k0 1) else (
    j122 x1 x2 x3 x5 x6 k0 0)) fun j106 =>
    if r97 = 3 then (
    j106 x1 v107 v114 x5 r97 1) else (
    j106 x1 v107 v114 x5 r97 0)))
def fL_holds (n : Nat) (XF : DM) (XN : DM) (XW : DM) (XP : DM) (XQ : DM) (XO : DM) (XH : HD)  : Option (Int32) :=
bnd (fX5_count n XF XN XW XP XQ XO XH 1) fun r1 =>
bnd (fX5_count n XF XN XW XP XQ XO XH 2) fun r6 =>
bnd (fX5_count n XF XN XW XP XQ XO XH 3) fun r11 =>
sl (fun (x1 : Int32) (x2 : Int32) (x3 : Int32) (k0 : Int32) =>
sl (fun (x2 : Int32) (x3 : Int32) (x4 : Int32) =>
sl (fun (x2 : Int32) (x3 : Int32) (x4 : Int32) (x5 : Int32) =>
sl (fun (x2 : Int32) (x3 : Int32) (x4 : Int32) (x5 : Int32) (x6 : Int32) =>
sl (fun (x2 : Int32) (x3 : Int32) (x4 : Int32) (x5 : Int32) (x6 : Int32) =>
bnd (fX5_count n XF XN XW XP XQ XO XH 4) fun r16 =>
if x4 = 0 then (
some 0) else (
bnd (fX5_count n XF XN XW XP XQ XO XH 13) fun r22 =>
if x2 = r22 then (
if x2 = x5 then (
if x2 = x6 then (
bnd (fX5_count n XF XN XW XP XQ XO XH 0) fun r30 =>
if r30 < x3 then (
some 0) else (
if r16 < 0 then (
some 1) else (
bnd (fX5_word XF XN XW XP XQ r16 4) fun r37 =>
if 3 ≤ r37 then (
some 0) else (
bnd (fX5_count n XF XN XW XP XQ XO XH 5) fun r43 =>
if r43 ≤ 0 then (
some 0) else (
some 1))))) else (
some 0)) else (
some 0)) else (
some 0))) fun j453 =>
fL_holds_L400 n XF XN XW XP XQ XO XH j453 n x2 x3 x4 x5 x6 0) fun j397 =>
fL_holds_L369 n XF XN XW XP XQ XO XH j397 n x2 x3 x4 x5 0 0) fun j363 =>
fL_holds_L335 n XF XN XW XP XQ XO XH j363 n x2 x3 x4 0 0) fun j329 =>
fL_holds_L54 n XF XN XW XP XQ XO XH j329 n x1 x2 x3 k0 0) fun j49 =>
sl (fun (x1 : Int32) (x2 : Int32) (x3 : Int32) =>
j49 x1 x2 x3 0) fun j48 =>
if r6 < r11 then (
j48 r1 0 0) else (
bnd (fX5_count n XF XN XW XP XQ XO XH 6) fun r216 =>
if 5 < r216 then (
j48 r1 0 0) else (
bnd (fX5_count n XF XN XW XP XQ XO XH 7) fun r222 =>
if 10 < r222 then (
j48 r1 0 0) else (
j49 r1 0 0 1)))
