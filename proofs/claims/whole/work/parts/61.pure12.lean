
def xm_bd (f : Nat → Int64) (x : Int64) : Nat → Int64 := va_up f 3 (if x < f 3 then f 3 else x)
def xm_retain (nT : Nat) (fL : Nat → Nat → Int64) (f : Nat → Int64) (x : Int64) : Int32 × (Nat → Int64) := if x < 0 ∨ ¬ x ≤ 2000000 then (-1, f) else (lb_pc (xl_live fL nT f &&& (xl_live fL nT (xm_bd f x) ^^^ (-1))), xm_bd f x)
