
def xm_mark (m : Nat) (k : Nat → Nat → Int64) (x y : Int64) : Bool × ck_S := if ok_num x = true ∧ ok_num y = true then ck_add m k x y else (false, m, k)
def xm_tok (fn x : Int64) (kd : Int32) (se v wh : Int64) : Bool := ok_num x && (!decide (x < fn) && (ok_kind kd && (ok_num se && (ok_val v && ok_num wh))))
def xm_tell (nT : Nat) (fI : Nat → Nat → Int32) (fL : Nat → Nat → Int64) (lf : Nat) (fn : Int64) (d : Int32) (x : Int64) (kd : Int32) (se v wh : Int64) : Int32 × tl_S :=
  if xm_tok fn x kd se v wh = false then (-1, nT, fI, fL) else if tl_has fI fL nT d (nI lf) x.toInt32 kd se v = true then (0, nT, fI, fL) else ((if (tl_add nT fI fL d (nI lf) x.toInt32 kd se v wh).1 = true then 1 else -1), (tl_add nT fI fL d (nI lf) x.toInt32 kd se v wh).2)
def xm_join (nT : Nat) (fI : Nat → Nat → Int32) (fL : Nat → Nat → Int64) (o : Int32) (f v g : Nat → Int64) : Int32 × (Nat → Int64) × (Nat → Int64) := (lb_pc (xl_conf fI fL nT (to_bring o f v g).2.1), (to_bring o f v g).2)
def xm_cok (kd : Int32) (se v wh : Int64) : Bool := ok_kind kd && (ok_num se && (ok_val v && ok_num wh))
def xm_co (f : Nat → Int64) (p : tl_S) : Option Nat → Bool × (Nat → Int64) × tl_S
  | none => (false, f, p)
  | some i => (true, va_up f 1 (f 1 ||| bs_b i), p)
def xm_correct (nC : Nat) (gI : Nat → Nat → Int32) (gL : Nat → Nat → Int64) (f : Nat → Int64) (dv kd : Int32) (se v wh : Int64) : Bool × (Nat → Int64) × tl_S :=
  if xm_cok kd se v wh = true then xm_co f (co_add nC gI gL dv kd se v wh).2 (co_add nC gI gL dv kd se v wh).1 else (false, f, nC, gI, gL)
