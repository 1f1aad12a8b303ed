/-! THE REFERENCE'S STATE: a row r of 612 ints; what its reading methods answer -/
def kn (r : Nat → Int32) : Nat := tn (r 5)
def mn (r : Nat → Int32) : Nat := tn (r 6)
def on (r : Nat → Int32) : Nat := tn (r 11)
def pd (r : Nat → Int32) (q : Nat) : Nat := tn (r (5 * q + 84))
def pc (r : Nat → Int32) (q : Nat) : Nat := tn (r (5 * q + 85))
def pg (r : Nat → Int32) (q : Nat) : Nat := tn (r (5 * q + 86))
def pk (r : Nat → Int32) (q : Nat) : Nat := tn (r (5 * q + 87))
def dc (r : Nat → Int32) (d : Nat) : Nat := tn (r (6 * d + 12))
def WR (r : Nat → Int32) : Prop :=
  (r 5 = nI (kn r) ∧ kn r ≤ 12) ∧ (r 6 = nI (mn r) ∧ mn r ≤ 12) ∧ (r 11 = nI (on r) ∧ on r ≤ 12) ∧
  (∀ q, q < mn r → r (5 * q + 84) = nI (pd r q) ∧ pd r q < kn r ∧ r (5 * q + 85) = nI (pc r q) ∧ pc r q ≤ 6 ∧ r (5 * q + 86) = nI (pg r q) ∧ pg r q < 20 ∧ r (5 * q + 87) = nI (pk r q) ∧ pk r q ≤ 2) ∧
  (∀ d, d < kn r → r (6 * d + 12) = nI (dc r d) ∧ dc r d < 6)
def supp (r : Nat → Int32) (q : Nat) : Int32 := itr (fun d a => a + ((r (5 * q + 88) >>> (nI d &&& 31)) &&& nI 1) * r (6 * d + 13)) (r (6 * (pd r q) + 13)) (kn r)
def wgt (r : Nat → Int32) (x : Int32) : Int32 := itr (fun d a => a + (if x = nI 6 ∨ r (6 * d + 12) = x then r (6 * d + 13) else nI 0)) (nI 0) (kn r)
def refw (r : Nat → Int32) (x g k : Int32) : Int32 := itr (fun i a => if (r (4 * i + 144) = x ∧ r (4 * i + 145) = g ∧ r (4 * i + 146) = k) ∧ a < r (4 * i + 147) then r (4 * i + 147) else a) (-5) (on r)
/-- why a petition for place x about g, of kind k, with support v is refused; own and hive: where the bylaws lie -/
def refu (r : Nat → Int32) (q : Nat) (v : Int32) : Int32 :=
  if v < r 0 then nI 1
  else if v ≤ refw r (nI (pc r q)) (nI (pg r q)) (nI (pk r q)) then nI 2
  else if pc r q ≠ 6 ∧ pk r q ≠ 2 ∧ r (3 * (pg r q) + 552) ≠ (-5) ∧ r (3 * (pg r q) + 552) ≠ nI (pk r q) ∧ v < r (3 * (pg r q) + 553) then nI 3
  else if (pk r q = 2 ∧ r (60 * (pc r q) + 3 * (pg r q) + 192) = (-5)) ∨ (pk r q ≠ 2 ∧ r (60 * (pc r q) + 3 * (pg r q) + 192) = nI (pk r q) ∧ v ≤ r (60 * (pc r q) + 3 * (pg r q) + 193)) then nI 4
  else if pk r q = 2 ∧ nI 2 * v ≤ wgt r (nI (pc r q)) then nI 5 else nI 0
