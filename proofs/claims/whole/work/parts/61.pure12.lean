
def xm_bd (f : Nat → Int64) (x : Int64) : Nat → Int64 := va_up f 3 (if x < f 3 then f 3 else x)
def xm_retain (nT : Nat) (fL : Nat → Nat → Int64) (f : Nat → Int64) (x : Int64) : Int32 × (Nat → Int64) := if x < 0 ∨ ¬ x ≤ 2000000 then (-1, f) else (lb_pc (xl_live fL nT f &&& (xl_live fL nT (xm_bd f x) ^^^ (-1))), xm_bd f x)

def xm_s2 (nT : Nat) (fI : Nat → Nat → Int32) (fL : Nat → Nat → Int64) (f : Nat → Int64) : Option Nat → Int32 × (Nat → Int64)
  | none => (-1, f)
  | some i => (lb_pc (xl_conf fI fL nT (va_up f 2 (f 2 ||| bs_b i))), va_up f 2 (f 2 ||| bs_b i))
def xm_s1 (nT : Nat) (fI : Nat → Nat → Int32) (fL : Nat → Nat → Int64) (f : Nat → Int64) (wh : Int32) : Option Nat → Int32 × (Nat → Int64)
  | none => (-1, f)
  | some t => xm_s2 nT fI fL f (tl_ip fI fL nT (tl_key fI nT t (xl_live fL nT f)) wh)
def xm_settle (nT : Nat) (fI : Nat → Nat → Int32) (fL : Nat → Nat → Int64) (f : Nat → Int64) (d kd wh : Int32) : Int32 × (Nat → Int64) := xm_s1 nT fI fL f wh (tl_first fI fL nT (xl_conf fI fL nT f &&& tl_ofK fI nT d kd))
def xm_batch (so : Int32) (nb : Nat) : Int32 × Int32 × Nat := if so = -1 then (nI nb, nI nb, nb + 1) else (-1, so, nb)
