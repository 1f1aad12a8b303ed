
/-- a petition has passed -/
noncomputable def psr (r : Nat → Int32) (q : Nat) (v : Int32) : Nat → Int32 := upd (upd (upd (upd r (60 * (pc r q) + 3 * (pg r q) + 192) (if pk r q = 2 then (-5) else nI (pk r q))) (60 * (pc r q) + 3 * (pg r q) + 193) v) (60 * (pc r q) + 3 * (pg r q) + 194) (r 3)) 10 (r 10 + b2 (pk r q = 2))
