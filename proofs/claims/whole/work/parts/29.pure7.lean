
theorem mo_clr_s (w z : Nat) (f : Nat → Bool) (k : Nat) : mo_clr w z f (k + 1) = va_up (mo_clr w z f k) (w * z + k) false := rfl
def mo_ep (mI : Nat → Nat → Int32) (b : Int32) (i : Nat) : Bool := !decide (b < 0) && decide (mI 14 i = b)
def mo_ev (sc : Nat → Nat) (mI : Nat → Nat → Int32) (mL : Nat → Nat → Int64) (mZ : Nat → Nat → Bool) : Option Nat → Bool × ms_S
  | none => (false, sc, mI, mL, mZ)
  | some z => (true, (mo_bring sc mI mL mZ z (6 + z)).2.1, va_up (mo_bring sc mI mL mZ z (6 + z)).2.2.1 14 (upd ((mo_bring sc mI mL mZ z (6 + z)).2.2.1 14) z (-1)), (mo_bring sc mI mL mZ z (6 + z)).2.2.2.1, (mo_bring sc mI mL mZ z (6 + z)).2.2.2.2)
def mo_end (sc : Nat → Nat) (mI : Nat → Nat → Int32) (mL : Nat → Nat → Int64) (mZ : Nat → Nat → Bool) (b : Int32) : Bool × ms_S := mo_ev sc mI mL mZ (nn_ff (mo_ep mI b) (sc 3))
def mo_mk (mI : Nat → Nat → Int32) (z : Nat) (x y : Int64) : Prop := 0 < (mI 15 z).toNatClampNeg ∧ (x ≤ (mI 16 (10 * z + (mI 15 z).toNatClampNeg - 1)).toInt64 ∨ y < (mI 17 (10 * z + (mI 15 z).toNatClampNeg - 1)).toInt64)
def mo_mok (sc : Nat → Nat) (mI : Nat → Nat → Int32) (d : Int32) (x y : Int64) : Prop := mo_ok (sc 0) d = true ∧ mo_in x 0 1000000 = true ∧ mo_in y 0 1000000 = true ∧ ¬ (mI 15 d.toNatClampNeg).toNatClampNeg = 10 ∧ ¬ mo_mk mI d.toNatClampNeg x y
noncomputable def mo_mark (sc : Nat → Nat) (mI : Nat → Nat → Int32) (mL : Nat → Nat → Int64) (mZ : Nat → Nat → Bool) (d : Int32) (x y : Int64) : Bool × ms_S :=
  match Classical.propDecidable (mo_mok sc mI d x y) with
  | isTrue _ => (true, sc, va_up (va_up (va_up mI 16 (upd (mI 16) (10 * d.toNatClampNeg + (mI 15 d.toNatClampNeg).toNatClampNeg) x.toInt32)) 17 (upd (mI 17) (10 * d.toNatClampNeg + (mI 15 d.toNatClampNeg).toNatClampNeg) y.toInt32)) 15 (upd (mI 15) d.toNatClampNeg (nI ((mI 15 d.toNatClampNeg).toNatClampNeg + 1))), mL, mZ)
  | isFalse _ => (false, sc, mI, mL, mZ)
theorem mo_mark_t {sc : Nat → Nat} {mI : Nat → Nat → Int32} {mL : Nat → Nat → Int64} {mZ : Nat → Nat → Bool} {d : Int32} {x y : Int64} (h : mo_mok sc mI d x y) : mo_mark sc mI mL mZ d x y = (true, sc, va_up (va_up (va_up mI 16 (upd (mI 16) (10 * d.toNatClampNeg + (mI 15 d.toNatClampNeg).toNatClampNeg) x.toInt32)) 17 (upd (mI 17) (10 * d.toNatClampNeg + (mI 15 d.toNatClampNeg).toNatClampNeg) y.toInt32)) 15 (upd (mI 15) d.toNatClampNeg (nI ((mI 15 d.toNatClampNeg).toNatClampNeg + 1))), mL, mZ) := by
  unfold mo_mark
  cases Classical.propDecidable (mo_mok sc mI d x y) with
  | isTrue _ => rfl
  | isFalse q => exact absurd h q
theorem mo_mark_f {sc : Nat → Nat} {mI : Nat → Nat → Int32} {mL : Nat → Nat → Int64} {mZ : Nat → Nat → Bool} {d : Int32} {x y : Int64} (h : ¬ mo_mok sc mI d x y) : mo_mark sc mI mL mZ d x y = (false, sc, mI, mL, mZ) := by
  unfold mo_mark
  cases Classical.propDecidable (mo_mok sc mI d x y) with
  | isTrue q => exact absurd q h
  | isFalse _ => rfl
def mo_ce2 (mL : Nat → Nat → Int64) (dv kd : Int32) (se v wh : Int64) (i : Nat) : Bool := decide (mL 9 (5 * i) = dv.toInt64) && (decide (mL 9 (5 * i + 1) = kd.toInt64) && (decide (mL 9 (5 * i + 2) = se) && (decide (mL 9 (5 * i + 3) = v) && decide (mL 9 (5 * i + 4) = wh))))
def mo_cw (mL : Nat → Nat → Int64) (dv kd : Int32) (se v wh : Int64) (i : Nat) : Nat → Int64 := vp_updL (vp_updL (vp_updL (vp_updL (vp_updL (mL 9) (5 * i) dv.toInt64) (5 * i + 1) kd.toInt64) (5 * i + 2) se) (5 * i + 3) v) (5 * i + 4) wh
def mo_cok (sc : Nat → Nat) (d dv kd : Int32) (se v wh : Int64) : Bool := mo_ok (sc 3) d && (mo_ok (sc 0) dv && (mo_in kd.toInt64 0 3 && (mo_in se 0 1000000 && (mo_in v (-1000000000) 1000000000 && mo_in wh 0 1000000))))
def mo_cv (sc : Nat → Nat) (mI : Nat → Nat → Int32) (mL : Nat → Nat → Int64) (mZ : Nat → Nat → Bool) (z : Nat) (dv kd : Int32) (se v wh : Int64) : Option Nat → Bool × ms_S
  | some i => (true, sc, mI, va_up mL 9 (mo_cw mL dv kd se v wh i), va_up mZ 12 (va_up (mZ 12) (20 * z + i) true))
  | none => if sc 2 = 20 then (false, sc, mI, mL, mZ) else (true, va_up sc 2 (sc 2 + 1), mI, va_up mL 9 (mo_cw mL dv kd se v wh (sc 2)), va_up mZ 12 (va_up (mZ 12) (20 * z + sc 2) true))
def mo_correct (sc : Nat → Nat) (mI : Nat → Nat → Int32) (mL : Nat → Nat → Int64) (mZ : Nat → Nat → Bool) (d dv kd : Int32) (se v wh : Int64) : Bool × ms_S := if mo_cok sc d dv kd se v wh = false then (false, sc, mI, mL, mZ) else mo_cv sc mI mL mZ d.toNatClampNeg dv kd se v wh (nn_ff (mo_ce2 mL dv kd se v wh) (sc 2))
