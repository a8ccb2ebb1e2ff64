def fL_parted (n : Nat) (XF : DM) (XN : DM) (XW : DM) (XP : DM) (XQ : DM) (XO : DM) (XH : HD) (p1 p2 : Int32) : Option (Int32 × DM × DM × DM × DM × HD) :=
bnd (fX5_run n XF XN XW XP XH p1) fun u5 =>
sl u5.1 fun v9 =>
if 0 ≤ v9 then (
bnd (fX5_count n XF u5.2.1 XW XP XQ XO u5.2.2 4) fun r12 =>
bnd (fX5_count n XF u5.2.1 XW XP XQ XO u5.2.2 5) fun r17 =>
bnd (fX5_count n XF u5.2.1 XW XP XQ XO u5.2.2 8) fun r22 =>
bnd (fX5_count n XF u5.2.1 XW XP XQ XO u5.2.2 9) fun r27 =>
bnd (fX5_count n XF u5.2.1 XW XP XQ XO u5.2.2 30) fun r32 =>
bnd (fX5_count n XF u5.2.1 XW XP XQ XO u5.2.2 31) fun r37 =>
bnd (fL_holds n XF u5.2.1 XW XP XQ XO u5.2.2) fun r42 =>
sl (fun (x1 : Int32) (x2 : Int32) (x3 : Int32) (x4 : Int32) (x5 : Int32) (x6 : Int32) (x7 : Int32) (x8 : Int32) (x9 : Int32) (k0 : Int32) (XN : DM) (XW : DM) (XP : DM) (XQ : DM) (XH : HD) =>
bnd (fX5_run n XF XN XW XP XH x2) fun u51 =>
sl u51.1 fun v55 =>
bnd (fX5_count n XF u51.2.1 XW XP XQ XO u51.2.2 4) fun r57 =>
sl (fun (x3 : Int32) (x4 : Int32) (x5 : Int32) (x6 : Int32) (x7 : Int32) (x8 : Int32) (x9 : Int32) (x10 : Int32) (x11 : Int32) (k0 : Int32) (XN : DM) (XW : DM) (XP : DM) (XQ : DM) (XH : HD) =>
if x10 = 0 then (
some (0, XN, XW, XP, XQ, XH)) else (
if (x11 + k0) = x3 then (
bnd (fX5_count n XF XN XW XP XQ XO XH 4) fun r64 =>
if r64 = x4 then (
bnd (fX5_count n XF XN XW XP XQ XO XH 5) fun r70 =>
if r70 = x5 then (
bnd (fX5_count n XF XN XW XP XQ XO XH 8) fun r76 =>
if r76 = x6 then (
bnd (fX5_count n XF XN XW XP XQ XO XH 9) fun r82 =>
if r82 = x7 then (
bnd (fX5_count n XF XN XW XP XQ XO XH 30) fun r88 =>
if r88 = x8 then (
bnd (fX5_count n XF XN XW XP XQ XO XH 31) fun r94 =>
if r94 = x9 then (
some (1, XN, XW, XP, XQ, XH)) else (
some (0, XN, XW, XP, XQ, XH))) else (
some (0, XN, XW, XP, XQ, XH))) else (
some (0, XN, XW, XP, XQ, XH))) else (
some (0, XN, XW, XP, XQ, XH))) else (
some (0, XN, XW, XP, XQ, XH))) else (
some (0, XN, XW, XP, XQ, XH))) else (
some (0, XN, XW, XP, XQ, XH)))) fun j119 =>
if 0 ≤ r57 then (
bnd (fX5_run n XF u51.2.1 XW XP u51.2.2 (x1 - x2)) fun u105 =>
j119 x3 x4 x5 x6 x7 x8 x9 k0 v55 u105.1 u105.2.1 XW XP XQ u105.2.2) else (
j119 x3 x4 x5 x6 x7 x8 x9 k0 v55 0 u51.2.1 XW XP XQ u51.2.2)) fun j91 =>
sl (fun (x1 : Int32) (x2 : Int32) (x3 : Int32) (x4 : Int32) (x5 : Int32) (x6 : Int32) (x7 : Int32) (x8 : Int32) (x9 : Int32) (XN : DM) (XW : DM) (XP : DM) (XQ : DM) (XH : HD) =>
j91 x1 x2 x3 x4 x5 x6 x7 x8 x9 0 XN XW XP XQ XH) fun j90 =>
if r42 = 0 then (
j90 p1 p2 v9 r12 r17 r22 r27 r32 r37 u5.2.1 XW XP XQ u5.2.2) else (
bnd (fX5_undo n XF u5.2.1 XW XP XQ u5.2.2) fun u117 =>
if u117.1 < 0 then (
j90 p1 p2 v9 r12 r17 r22 r27 r32 r37 u117.2.1 u117.2.2.1 u117.2.2.2.1 u117.2.2.2.2.1 u117.2.2.2.2.2) else (
j91 p1 p2 v9 r12 r17 r22 r27 r32 r37 1 u117.2.1 u117.2.2.1 u117.2.2.2.1 u117.2.2.2.2.1 u117.2.2.2.2.2))) else (
bnd (fX5_count n XF u5.2.1 XW XP XQ XO u5.2.2 4) fun r122 =>
if r122 = (-4) then (
some (1, u5.2.1, XW, XP, XQ, u5.2.2)) else (
some (0, u5.2.1, XW, XP, XQ, u5.2.2)))
