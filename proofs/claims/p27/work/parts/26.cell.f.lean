def fL_cell (N1 : Nat) (fr1 : (Nat → Int32)) (p1 : Int32) : Option (Int32) :=
sl (fun (k0 : Int32) =>
some (k0 &&& 2147483647)) fun j19 =>
if (nI N1) ≤ p1 then (
j19 ((15485959 * p1) + 109)) else (
bnd (rdA N1 fr1 p1) fun v2 =>
j19 v2)
