
def xa_at (g : Nat → Nat) (b w n : Nat) (d : Int32) : Option Nat := if mo_ok n d = true then some (g (b + w * d.toNatClampNeg)) else none
def xl_live (fL : Nat → Nat → Int64) (n : Nat) (hf : Nat → Int64) : Int64 := tl_nb fL n (hf 3) (hf 0)
def xl_conf (fI : Nat → Nat → Int32) (fL : Nat → Nat → Int64) (n : Nat) (hf : Nat → Int64) : Int64 := tl_us fI n (xl_live fL n hf) (hf 2)
def xl_seen (fI : Nat → Nat → Int32) (fL : Nat → Nat → Int64) (n : Nat) (hf : Nat → Int64) (d kd : Int32) : Int64 := tl_hold fI fL n (xl_live fL n hf &&& tl_ofK fI n d kd) (hf 2)

def xm_life (nd : Nat) (dl : Nat → Nat) (d : Int32) : Int32 := if mo_ok nd d = true then nI (dl d.toNatClampNeg) else -1
def xm_vo (fL : Nat → Nat → Int64) : Option Nat → Int64
  | none => -9223372036854775808
  | some t => fL 1 t
def xm_last (ns nT : Nat) (fI : Nat → Nat → Int32) (fL : Nat → Nat → Int64) (sh : Nat → Nat → Int64) (d dv kd : Int32) : Int64 := if mo_ok ns d = true then xm_vo fL (tl_ln fI fL nT (xl_seen fI fL nT (sh d.toNatClampNeg) dv kd)) else -9223372036854775808
def xm_kept (ns nT : Nat) (fI : Nat → Nat → Int32) (fL : Nat → Nat → Int64) (sh : Nat → Nat → Int64) (d kd : Int32) : Int64 := if mo_ok ns d = true then tl_sum fI fL nT (sh d.toNatClampNeg 0 &&& (xl_live fL nT (sh d.toNatClampNeg) ^^^ (-1))) kd else 0
def xm_equal (ns : Nat) (sh : Nat → Nat → Int64) (d dv : Int32) : Bool := mo_ok ns d && (mo_ok ns dv && he_like (sh d.toNatClampNeg) (sh dv.toNatClampNeg))
def mo_part2 (fI : Nat → Nat → Int32) (wt : Int32) : Option Nat → Int32
  | none => -1
  | some j => tl_part fI wt j
def xm_conflict (ns nT : Nat) (fI : Nat → Nat → Int32) (fL : Nat → Nat → Int64) (sh : Nat → Nat → Int64) (d pk wt : Int32) : Int32 := if mo_ok ns d = true then mo_part2 fI wt (tl_ip fI fL nT (xl_conf fI fL nT (sh d.toNatClampNeg)) pk) else -1
def xm_kw (fL gL : Nat → Nat → Int64) (t : Nat) : Option Nat → Int64
  | none => fL 1 t
  | some i => gL 1 i
def xm_kv (fL : Nat → Nat → Int64) (gI : Nat → Nat → Int32) (gL : Nat → Nat → Int64) (nC : Nat) (cr : Int64) (dv kd : Int32) (wh : Int64) : Option Nat → Int64
  | none => -9223372036854775808
  | some t => xm_kw fL gL t (co_la gI gL nC cr dv kd (fL 0 t) wh)
def xm_known (ns nT nC : Nat) (fI : Nat → Nat → Int32) (fL : Nat → Nat → Int64) (gI : Nat → Nat → Int32) (gL : Nat → Nat → Int64) (sh : Nat → Nat → Int64) (d dv kd : Int32) (se wh : Int64) : Int64 := if mo_ok ns d = true then xm_kv fL gI gL nC (sh d.toNatClampNeg 1) dv kd wh (tl_lk fI fL nT (xl_seen fI fL nT (sh d.toNatClampNeg) dv kd) se wh) else -9223372036854775808
