
def dq (ca : Nat → ClassId) (a c : Nat) (ad : Nat → Nat) (l : Nat) (f : Int64) (m : Nat) (k : Nat → Nat → Int64) : va_W := (a, .inr (1, [.ref c, .int (nI l), .long f])) :: kw ca c ad m k
def xm_reset (l : Nat) (f x : Int64) : Bool × Nat × Int64 := if ok_num x = true ∧ l < 99 then (true, l + 1, x) else (false, l, f)
