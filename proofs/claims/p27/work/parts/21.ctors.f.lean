def fX6_init_L184 (n : Nat)  : Nat → Int32 → DM → Option (DM)
  | 0, _, _ => none
  | fu + 1, x1, XM =>
    if 3 ≤ x1 then (
    some XM) else (
    bnd (wrA 348 (XM 0) (330 + x1) 100) fun f42 =>
    sl (va_up XM 0 f42) fun X45 =>
    sl (x1 + 1) fun v47 =>
    fX6_init_L184 n fu v47 X45)
def fX6_initT (n : Nat) : Option DM :=
bnd (wrA 348 (X0D 0) 301 (-1)) fun f1 =>
sl (va_up X0D 0 f1) fun X4 =>
bnd (wrA 348 (X4 0) 333 6) fun f6 =>
sl (va_up X4 0 f6) fun X9 =>
bnd (wrA 348 (X9 0) 334 3) fun f11 =>
sl (va_up X9 0 f11) fun X14 =>
bnd (wrA 348 (X14 0) 335 150) fun f16 =>
sl (va_up X14 0 f16) fun X19 =>
bnd (wrA 348 (X19 0) 336 220) fun f21 =>
sl (va_up X19 0 f21) fun X24 =>
bnd (wrA 348 (X24 0) 337 130) fun f26 =>
sl (va_up X24 0 f26) fun X29 =>
bnd (wrA 348 (X29 0) 338 10) fun f31 =>
sl (va_up X29 0 f31) fun X34 =>
bnd (wrA 348 (X34 0) 339 2) fun f36 =>
sl (va_up X34 0 f36) fun X39 =>
fX6_init_L184 n n 0 X39
