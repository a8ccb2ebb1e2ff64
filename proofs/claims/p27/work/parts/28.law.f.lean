def fL_law_L112 (n L : Nat) (xs : Nat → Int32) (XO : DM) (k587_ : Int32 → DM → DM → DM → DM → DM → HD → Option (Int32)) : Nat → Int32 → Int32 → DM → DM → DM → DM → DM → HD → Option (Int32)
  | 0, _, _, _, _, _, _, _, _ => none
  | fu + 1, x2, x4, XF, XN, XW, XP, XQ, XH =>
    if 24 ≤ x4 then (
    k587_ x2 XF XN XW XP XQ XH) else (
    if x2 = 0 then (
    k587_ x2 XF XN XW XP XQ XH) else (
    bnd (fL_cell L xs (92 + x4)) fun r102 =>
    bnd (fX5_count n XF XN XW XP XQ XO XH 4) fun r104 =>
    bnd (rmA r102 6) fun v109 =>
    sl (fun (x2 : Int32) (x4 : Int32) (XF : DM) (XN : DM) (XW : DM) (XP : DM) (XQ : DM) (XH : HD) =>
    sl (fun (x4 : Int32) (k0 : Int32) (XF : DM) (XN : DM) (XW : DM) (XP : DM) (XQ : DM) (XH : HD) =>
    sl (x4 + 1) fun v112 =>
    fL_law_L112 n L xs XO k587_ fu k0 v112 XF XN XW XP XQ XH) fun j580 =>
    sl (fun (x4 : Int32) (XF : DM) (XN : DM) (XW : DM) (XP : DM) (XQ : DM) (XH : HD) =>
    j580 x4 0 XF XN XW XP XQ XH) fun j579 =>
    if x2 = 0 then (
    j579 x4 XF XN XW XP XQ XH) else (
    bnd (fL_holds n XF XN XW XP XQ XO XH) fun r115 =>
    if r115 = 0 then (
    j579 x4 XF XN XW XP XQ XH) else (
    j580 x4 1 XF XN XW XP XQ XH))) fun j564 =>
    if v109 = 0 then (
    bnd (fX5_count n XF XN XW XP XQ XO XH 30) fun r122 =>
    bnd (fX5_count n XF XN XW XP XQ XO XH 31) fun r127 =>
    bnd (fX5_count n XF XN XW XP XQ XO XH 32) fun r132 =>
    bnd (fX5_count n XF XN XW XP XQ XO XH 10) fun r137 =>
    bnd (fX5_back n XF XN XW XP XH) fun u146 =>
    sl u146.1 fun v150 =>
    sl (fun (x4 : Int32) (k0 : Int32) (XF : DM) (XN : DM) (XW : DM) (XP : DM) (XQ : DM) (XH : HD) =>
    j564 k0 x4 XF XN XW XP XQ XH) fun j329 =>
    if v150 = (-2) then (
    bnd (fX5_longest n XF u146.2.1 XW 0) fun u204 =>
    if u204.1 = (-4) then (
    j329 x4 1 u204.2 u146.2.1 XW XP XQ u146.2.2) else (
    j329 x4 0 u204.2 u146.2.1 XW XP XQ u146.2.2)) else (
    bnd (fX5_count n XF u146.2.1 XW XP XQ XO u146.2.2 10) fun r153 =>
    sl (fun (x4 : Int32) (XF : DM) (XN : DM) (XW : DM) (XP : DM) (XQ : DM) (XH : HD) =>
    j329 x4 0 XF XN XW XP XQ XH) fun j328 =>
    if r153 = (r137 + 1) then (
    sl (fun (x4 : Int32) (x7 : Int32) (x8 : Int32) (x9 : Int32) (x11 : Int32) (XF : DM) (XN : DM) (XW : DM) (XP : DM) (XQ : DM) (XH : HD) =>
    bnd (fX5_count n XF XN XW XP XQ XO XH 5) fun r159 =>
    bnd (fX5_word XF XN XW XP XQ x11 8) fun r164 =>
    if r159 = r164 then (
    bnd (fX5_count n XF XN XW XP XQ XO XH 30) fun r170 =>
    if x7 < r170 then (
    j328 x4 XF XN XW XP XQ XH) else (
    bnd (fX5_count n XF XN XW XP XQ XO XH 31) fun r176 =>
    if x8 < r176 then (
    j328 x4 XF XN XW XP XQ XH) else (
    bnd (fX5_count n XF XN XW XP XQ XO XH 32) fun r182 =>
    if x9 < r182 then (
    j328 x4 XF XN XW XP XQ XH) else (
    bnd (fX5_word XF XN XW XP XQ x11 5) fun r188 =>
    bnd (fX5_sentence n XF XN XW XP r188 3) fun r193 =>
    if r193 ≤ 0 then (
    j328 x4 XF XN XW XP XQ XH) else (
    j329 x4 1 XF XN XW XP XQ XH))))) else (
    j328 x4 XF XN XW XP XQ XH)) fun j260 =>
    if r104 < 0 then (
    j260 x4 r122 r127 r132 v150 XF u146.2.1 XW XP XQ u146.2.2) else (
    if r104 < v150 then (
    j328 x4 XF u146.2.1 XW XP XQ u146.2.2) else (
    j260 x4 r122 r127 r132 v150 XF u146.2.1 XW XP XQ u146.2.2))) else (
    j328 x4 XF u146.2.1 XW XP XQ u146.2.2))) else if v109 = 1 then (
    bnd (fX5_count n XF XN XW XP XQ XO XH 6) fun r211 =>
    bnd (fX5_count n XF XN XW XP XQ XO XH 2) fun r216 =>
    sl (fun (x4 : Int32) (x5 : Int32) (x6 : Int32) (x12 : Int32) (k0 : Int32) (XF : DM) (XN : DM) (XW : DM) (XP : DM) (XQ : DM) (XH : HD) =>
    bnd (fX5_jump n XF XN XW XP XH k0) fun u225 =>
    sl u225.1 fun v229 =>
    sl (fun (x4 : Int32) (k0 : Int32) (XF : DM) (XN : DM) (XW : DM) (XP : DM) (XQ : DM) (XH : HD) =>
    j564 k0 x4 XF XN XW XP XQ XH) fun j475 =>
    if 0 ≤ v229 then (
    bnd (fX5_word XF u225.2.1 XW XP XQ v229 5) fun r232 =>
    sl (fun (x4 : Int32) (XF : DM) (XN : DM) (XW : DM) (XP : DM) (XQ : DM) (XH : HD) =>
    j475 x4 0 XF XN XW XP XQ XH) fun j474 =>
    if r232 = k0 then (
    bnd (fX5_count n XF u225.2.1 XW XP XQ XO u225.2.2 6) fun r238 =>
    sl (fun (x4 : Int32) (x5 : Int32) (x6 : Int32) (x12 : Int32) (k0 : Int32) (k1 : Int32) (XF : DM) (XN : DM) (XW : DM) (XP : DM) (XQ : DM) (XH : HD) =>
    if k0 = k1 then (
    bnd (rmA x5 4) fun v244 =>
    sl (fun (x4 : Int32) (XF : DM) (XN : DM) (XW : DM) (XP : DM) (XQ : DM) (XH : HD) =>
    j475 x4 1 XF XN XW XP XQ XH) fun j470 =>
    if 0 < v244 then (
    j470 x4 XF XN XW XP XQ XH) else (
    bnd (fX5_goBack n XF XN XW XH) fun u252 =>
    if u252.1 = x6 then (
    bnd (fX5_count n XF u252.2.1 XW XP XQ XO u252.2.2 6) fun r257 =>
    sl (fun (x4 : Int32) (k0 : Int32) (k1 : Int32) (XF : DM) (XN : DM) (XW : DM) (XP : DM) (XQ : DM) (XH : HD) =>
    if k0 = k1 then (
    j470 x4 XF XN XW XP XQ XH) else (
    j474 x4 XF XN XW XP XQ XH)) fun j467 =>
    if 5 ≤ x12 then (
    j467 x4 r257 4 XF u252.2.1 XW XP XQ u252.2.2) else (
    j467 x4 r257 x12 XF u252.2.1 XW XP XQ u252.2.2)) else (
    j474 x4 XF u252.2.1 XW XP XQ u252.2.2))) else (
    j474 x4 XF XN XW XP XQ XH)) fun j430 =>
    if 5 ≤ x12 then (
    j430 x4 x5 x6 x12 r238 5 XF u225.2.1 XW XP XQ u225.2.2) else (
    j430 x4 x5 x6 x12 r238 (x12 + 1) XF u225.2.1 XW XP XQ u225.2.2)) else (
    j474 x4 XF u225.2.1 XW XP XQ u225.2.2)) else (
    bnd (fX5_count n XF u225.2.1 XW XP XQ XO u225.2.2 6) fun r265 =>
    if r265 = x12 then (
    j475 x4 1 XF u225.2.1 XW XP XQ u225.2.2) else (
    j475 x4 0 XF u225.2.1 XW XP XQ u225.2.2))) fun j364 =>
    if r216 = 0 then (
    j364 x4 r102 r104 r211 0 XF XN XW XP XQ XH) else (
    bnd (dvA r102 6) fun v272 =>
    bnd (fX5_count n XF XN XW XP XQ XO XH 2) fun r275 =>
    bnd (rmA v272 r275) fun v280 =>
    j364 x4 r102 r104 r211 v280 XF XN XW XP XQ XH)) else if v109 = 2 then (
    bnd (dvA r102 6) fun v285 =>
    bnd (rmA v285 3) fun v288 =>
    bnd (fX5_count n XF XN XW XP XQ XO XH (30 + v288)) fun r291 =>
    bnd (dvA r102 18) fun v296 =>
    bnd (rmA v296 351) fun v299 =>
    bnd (fX5_speed XF XN XH v288 (50 + v299)) fun u306 =>
    sl (fun (x4 : Int32) (k0 : Int32) (XF : DM) (XN : DM) (XW : DM) (XP : DM) (XQ : DM) (XH : HD) =>
    j564 k0 x4 XF XN XW XP XQ XH) fun j527 =>
    if u306.1 = r291 then (
    j527 x4 1 XF u306.2.1 XW XP XQ u306.2.2) else (
    j527 x4 0 XF u306.2.1 XW XP XQ u306.2.2)) else (
    bnd (dvA r102 6) fun v312 =>
    bnd (rmA v312 200) fun v315 =>
    sl (2 + v315) fun v318 =>
    bnd (dvA r102 1200) fun v320 =>
    bnd (rmA v320 (v318 - 1)) fun v323 =>
    bnd (fL_parted n XF XN XW XP XQ XO XH v318 (1 + v323)) fun u333 =>
    sl u333.1 fun v337 =>
    j564 v337 x4 XF u333.2.1 u333.2.2.1 u333.2.2.2.1 u333.2.2.2.2.1 u333.2.2.2.2.2)))
def fL_law_L28 (n L : Nat) (xs : Nat → Int32) (XO : DM) (k73_ : Int32 → DM → DM → DM → DM → DM → HD → Option (Int32)) : Nat → Int32 → Int32 → Int32 → DM → DM → DM → DM → DM → HD → Option (Int32)
  | 0, _, _, _, _, _, _, _, _, _ => none
  | fu + 1, x2, x3, x4, XF, XN, XW, XP, XQ, XH =>
    if x3 ≤ x4 then (
    k73_ x2 XF XN XW XP XQ XH) else (
    if x2 = 0 then (
    k73_ x2 XF XN XW XP XQ XH) else (
    bnd (fL_cell L xs (1 + x4)) fun r362 =>
    bnd (fL_sign r362) fun r364 =>
    bnd (fX5_append n XF XN XW XP XQ XH r364) fun u376 =>
    bnd (fX5_count n XF u376.2.1 u376.2.2.1 u376.2.2.2.1 u376.2.2.2.2.1 XO u376.2.2.2.2.2 1) fun r380 =>
    sl (fun (x3 : Int32) (x4 : Int32) (k0 : Int32) (XF : DM) (XN : DM) (XW : DM) (XP : DM) (XQ : DM) (XH : HD) =>
    sl (x4 + 1) fun v385 =>
    fL_law_L28 n L xs XO k73_ fu k0 x3 v385 XF XN XW XP XQ XH) fun j66 =>
    if u376.1 = r380 then (
    j66 x3 x4 1 XF u376.2.1 u376.2.2.1 u376.2.2.2.1 u376.2.2.2.2.1 u376.2.2.2.2.2) else (
    j66 x3 x4 0 XF u376.2.1 u376.2.2.1 u376.2.2.2.1 u376.2.2.2.2.1 u376.2.2.2.2.2)))
def fL_lawT (n L : Nat) (xs : Nat → Int32) (XF : DM) (XN : DM) (XW : DM) (XP : DM) (XQ : DM) (XO : DM) (XH : HD) : Option Int32 :=
bnd (fL_holds n XF XN XW XP XQ XO XH) fun r1 =>
bnd (fL_cell L xs 0) fun r6 =>
bnd (rmA r6 60) fun v8 =>
sl (30 + v8) fun v11 =>
sl (fun (x2 : Int32) (XF : DM) (XN : DM) (XW : DM) (XP : DM) (XQ : DM) (XH : HD) =>
sl (fun (k0 : Int32) (XF : DM) (XN : DM) (XW : DM) (XP : DM) (XQ : DM) (XH : HD) =>
sl (fun (x2 : Int32) (XF : DM) (XN : DM) (XW : DM) (XP : DM) (XQ : DM) (XH : HD) =>
bnd (fX5_count n XF XN XW XP XQ XO XH 0) fun r13 =>
bnd (fX5_count n XF XN XW XP XQ XO XH 1) fun r18 =>
sl (fun (k0 : Int32) (XF : DM) (XN : DM) (XW : DM) (XP : DM) (XQ : DM) (XH : HD) =>
if k0 = 0 then (
some 0) else (
bnd (fL_holds n XF XN XW XP XQ XO XH) fun r24 =>
if r24 = 0 then (
some 0) else (
bnd (fX5_count n XF XN XW XP XQ XO XH 4) fun r30 =>
sl (fun (k0 : Int32) (XF : DM) (XN : DM) (XW : DM) (XP : DM) (XQ : DM) (XH : HD) =>
bnd (fX5_longest n XF XN XW 0) fun u38 =>
sl (fun (k0 : Int32) (k1 : Int32) (XF : DM) (XN : DM) (XW : DM) (XP : DM) (XQ : DM) (XH : HD) =>
if k0 = k1 then (
some 1) else (
some 0)) fun j709 =>
if u38.1 = (-4) then (
j709 k0 1 u38.2 XN XW XP XQ XH) else (
j709 k0 0 u38.2 XN XW XP XQ XH)) fun j694 =>
if 0 ≤ r30 then (
j694 0 XF XN XW XP XQ XH) else (
j694 1 XF XN XW XP XQ XH)))) fun j669 =>
sl (fun (XF : DM) (XN : DM) (XW : DM) (XP : DM) (XQ : DM) (XH : HD) =>
j669 0 XF XN XW XP XQ XH) fun j668 =>
if x2 = 0 then (
j668 XF XN XW XP XQ XH) else (
bnd (fX5_append n XF XN XW XP XQ XH 32) fun u53 =>
if u53.1 = r18 then (
bnd (fX5_count n XF u53.2.1 u53.2.2.1 u53.2.2.2.1 u53.2.2.2.2.1 XO u53.2.2.2.2.2 6) fun r58 =>
if r58 = 0 then (
bnd (fX5_cut n XF u53.2.1 u53.2.2.1 u53.2.2.2.1 u53.2.2.2.2.1 u53.2.2.2.2.2 1) fun u71 =>
if u71.1 = r13 then (
bnd (fX5_count n XF u71.2.1 u71.2.2.1 u71.2.2.2.1 u71.2.2.2.2.1 XO u71.2.2.2.2.2 1) fun r76 =>
if r76 = r18 then (
bnd (fX5_undo n XF u71.2.1 u71.2.2.1 u71.2.2.2.1 u71.2.2.2.2.1 u71.2.2.2.2.2) fun u89 =>
if u89.1 < 0 then (
j668 XF u89.2.1 u89.2.2.1 u89.2.2.2.1 u89.2.2.2.2.1 u89.2.2.2.2.2) else (
bnd (fX5_count n XF u89.2.1 u89.2.2.1 u89.2.2.2.1 u89.2.2.2.2.1 XO u89.2.2.2.2.2 0) fun r94 =>
if r94 = (r13 + 1) then (
j669 1 XF u89.2.1 u89.2.2.1 u89.2.2.2.1 u89.2.2.2.2.1 u89.2.2.2.2.2) else (
j668 XF u89.2.1 u89.2.2.1 u89.2.2.2.1 u89.2.2.2.2.1 u89.2.2.2.2.2))) else (
j668 XF u71.2.1 u71.2.2.1 u71.2.2.2.1 u71.2.2.2.2.1 u71.2.2.2.2.2)) else (
j668 XF u71.2.1 u71.2.2.1 u71.2.2.2.1 u71.2.2.2.2.1 u71.2.2.2.2.2)) else (
j668 XF u53.2.1 u53.2.2.1 u53.2.2.2.1 u53.2.2.2.2.1 u53.2.2.2.2.2)) else (
j668 XF u53.2.1 u53.2.2.1 u53.2.2.2.1 u53.2.2.2.2.1 u53.2.2.2.2.2))) fun j587 =>
fL_law_L112 n L xs XO j587 n k0 0 XF XN XW XP XQ XH) fun j108 =>
sl (fun (XF : DM) (XN : DM) (XW : DM) (XP : DM) (XQ : DM) (XH : HD) =>
j108 0 XF XN XW XP XQ XH) fun j107 =>
if x2 = 0 then (
j107 XF XN XW XP XQ XH) else (
bnd (fL_holds n XF XN XW XP XQ XO XH) fun r340 =>
if r340 = 0 then (
j107 XF XN XW XP XQ XH) else (
bnd (fL_cell L xs 91) fun r346 =>
bnd (rmA r346 51) fun v348 =>
bnd (fX5_set XF XN XH 5 v348) fun u355 =>
if u355.1 = 10 then (
j108 1 XF u355.2.1 XW XP XQ u355.2.2) else (
j107 XF u355.2.1 XW XP XQ u355.2.2)))) fun j73 =>
fL_law_L28 n L xs XO j73 n r1 v11 0 XF XN XW XP XQ XH
