/-- the length of a roll, row by row, track by track -/
def lenR (M : Nat → Nat → Int32) (j r q : Nat) : Nat → Nat
  | 0 => q
  | t + 1 => if M (6000 + 200 * j + r) t = 0 then lenR M j r q t else r + 1
def lenM (M : Nat → Nat → Int32) (j : Nat) : Nat → Nat
  | 0 => 0
  | r + 1 => lenR M j r (lenM M j r) 16
def bM (M : Nat → Nat → Int32) (j r t : Nat) : Int32 := M (6000 + 200 * j + r) t
