
def mo_nx (mI : Nat → Nat → Int32) (mZ : Nat → Nat → Bool) (z : Nat) (d la ab : Int32) : Nat → Int32
  | 0 => -1
  | k + 1 => if (mZ 10 (60 * z + k) = true ∧ mI 2 k = d ∧ mI 3 k = la ∧ ¬ mI 4 k ≤ ab) ∧ (mo_nx mI mZ z d la ab k < 0 ∨ mI 4 k < mo_nx mI mZ z d la ab k) then mI 4 k else mo_nx mI mZ z d la ab k
def mo_xb (mI : Nat → Nat → Int32) (mL : Nat → Nat → Int64) (mZ : Nat → Nat → Bool) (n z i j : Nat) : Bool := mo_cf mI mL mZ n z j && mo_kb mI j i
def mo_xp (sc : Nat → Nat) (mI : Nat → Nat → Int32) (mL : Nat → Nat → Int64) (mZ : Nat → Nat → Bool) (d pk : Int32) (i : Nat) : Bool := mo_ok (sc 3) d && (mo_cf mI mL mZ (sc 1) d.toNatClampNeg i && decide (nI (nn_ct (mo_xb mI mL mZ (sc 1) d.toNatClampNeg i) (sc 1)) = pk))
def mo_part (mI : Nat → Nat → Int32) (wt : Int32) : Option Nat → Int32
  | none => -1
  | some j => if wt = 0 then mI 2 j else if wt = 1 then mI 3 j else if wt = 2 then mI 4 j else if wt = 3 then mI 5 j else -1
def mo_conf (sc : Nat → Nat) (mI : Nat → Nat → Int32) (mL : Nat → Nat → Int64) (mZ : Nat → Nat → Bool) (d pk wt : Int32) : Int32 := mo_part mI wt (nn_ff (mo_xp sc mI mL mZ d pk) (sc 1))
theorem nn_ff_no {p : Nat → Bool} {n : Nat} (h : ∀ i, i < n → p i = false) : nn_ff p n = none := by
  induction n with
  | zero => rfl
  | succ n ih => simp [nn_ff, ih (fun i hi => h i (by omega)), h n (by omega)]
def mo_kp (sc : Nat → Nat) (mI : Nat → Nat → Int32) (mL : Nat → Nat → Int64) (mZ : Nat → Nat → Bool) (d dv kd : Int32) (se wh : Int64) (i : Nat) : Bool := mo_ok (sc 3) d && (decide (mI 2 i = dv) && (decide (mI 5 i = kd) && (decide ((mI 6 i).toInt64 ≤ se) && (decide ((mI 8 i).toInt64 ≤ wh) && mo_se mI mL mZ (sc 1) d.toNatClampNeg i))))
def mo_fp (mL : Nat → Nat → Int64) (mZ : Nat → Nat → Bool) (z : Nat) (dv kd : Int32) (se wh : Int64) (i : Nat) : Bool := mZ 12 (20 * z + i) && (decide (mL 9 (5 * i) = dv.toInt64) && (decide (mL 9 (5 * i + 1) = kd.toInt64) && (decide (mL 9 (5 * i + 2) = se) && decide (mL 9 (5 * i + 4) ≤ wh))))
def mo_fl (mL : Nat → Nat → Int64) (i j : Nat) : Bool := decide (mL 9 (5 * j + 4) < mL 9 (5 * i + 4)) || (decide (mL 9 (5 * i + 4) = mL 9 (5 * j + 4)) && decide (mL 9 (5 * j + 3) < mL 9 (5 * i + 3)))
def mo_lo (mL : Nat → Nat → Int64) (k : Nat) : Option Nat → Bool
  | none => true
  | some i => mo_fl mL k i
theorem mo_up {mL : Nat → Nat → Int64} {k : Nat} {o : Option Nat} : nn_up (mo_fl mL) k o = if mo_lo mL k o = true then some k else o := by cases o <;> first | rfl | simp [nn_up, mo_lo]
def mo_kw (mL : Nat → Nat → Int64) (j : Nat) : Option Nat → Int64
  | none => mL 7 j
  | some i => mL 9 (5 * i + 3)
def mo_kv (sc : Nat → Nat) (mI : Nat → Nat → Int32) (mL : Nat → Nat → Int64) (mZ : Nat → Nat → Bool) (z : Nat) (dv kd : Int32) (wh : Int64) : Option Nat → Int64
  | none => -9223372036854775808
  | some j => mo_kw mL j (nn_fm (mo_fp mL mZ z dv kd (mI 6 j).toInt64 wh) (mo_fl mL) (sc 2))
def mo_known (sc : Nat → Nat) (mI : Nat → Nat → Int32) (mL : Nat → Nat → Int64) (mZ : Nat → Nat → Bool) (d dv kd : Int32) (se wh : Int64) : Int64 := mo_kv sc mI mL mZ d.toNatClampNeg dv kd wh (nn_fm (mo_kp sc mI mL mZ d dv kd se wh) (mo_lt mI) (sc 1))
def mo_rp (mI : Nat → Nat → Int32) (mL : Nat → Nat → Int64) (mZ : Nat → Nat → Bool) (z : Nat) (x : Int64) (i : Nat) : Bool := mo_he mI mL mZ z i && decide ((mI 6 i).toInt64 < x)
def mo_retain (sc : Nat → Nat) (mI : Nat → Nat → Int32) (mL : Nat → Nat → Int64) (mZ : Nat → Nat → Bool) (d : Int32) (x : Int64) : Int32 × ms_S :=
  if mo_ok (sc 3) d = true ∧ mo_in x 0 2000000 = true then (nI (nn_ct (mo_rp mI mL mZ d.toNatClampNeg x) (sc 1)), sc, mI, va_up mL 13 (vp_updL (mL 13) d.toNatClampNeg (if mL 13 d.toNatClampNeg < x then x else mL 13 d.toNatClampNeg)), mZ) else (-1, sc, mI, mL, mZ)
def mo_clr (w z : Nat) (f : Nat → Bool) : Nat → Nat → Bool
  | 0 => f
  | k + 1 => va_up (mo_clr w z f k) (w * z + k) false
def mo_batch (sc : Nat → Nat) (mI : Nat → Nat → Int32) (mL : Nat → Nat → Int64) (mZ : Nat → Nat → Bool) (d : Int32) : Int32 × ms_S :=
  if mo_ok (sc 3) d = true ∧ mI 14 d.toNatClampNeg < 0 then (nI (sc 4), va_up sc 4 (sc 4 + 1), va_up mI 14 (upd (mI 14) d.toNatClampNeg (nI (sc 4))), va_up mL 13 (vp_updL (mL 13) (6 + d.toNatClampNeg) 0), va_up (va_up (va_up mZ 10 (mo_clr 60 (6 + d.toNatClampNeg) (mZ 10) 60)) 11 (mo_clr 60 (6 + d.toNatClampNeg) (mZ 11) 60)) 12 (mo_clr 20 (6 + d.toNatClampNeg) (mZ 12) 20)) else (-1, sc, mI, mL, mZ)

def hh (a : Nat) (f : Nat → Int64) (b : Nat) (g : Nat → Int64) : va_W := [(a, .inr (3, [.long (f 0), .long (f 1), .long (f 2), .long (f 3)])), (b, .inr (3, [.long (g 0), .long (g 1), .long (g 2), .long (g 3)]))]
def he_more (f g : Nat → Int64) : Bool := decide (¬ g 0 &&& (f 0 ^^^ (-1)) = 0) || (decide (¬ g 1 &&& (f 1 ^^^ (-1)) = 0) || (decide (¬ g 2 &&& (f 2 ^^^ (-1)) = 0) || decide (f 3 < g 3)))
def he_join (f g : Nat → Int64) : Nat → Int64 := va_up (va_up (va_up (va_up f 0 (f 0 ||| g 0)) 1 (f 1 ||| g 1)) 2 (f 2 ||| g 2)) 3 (if g 3 < f 3 then f 3 else g 3)
def he_like (f g : Nat → Int64) : Bool := decide (f 0 = g 0) && (decide (f 1 = g 1) && (decide (f 2 = g 2) && decide (f 3 = g 3)))
def he_zero (f : Nat → Int64) : Nat → Int64 := va_up (va_up (va_up (va_up f 0 0) 1 0) 2 0) 3 0

def sq (a h w : Nat) (o : Int32) (f v : Nat → Int64) : va_W := [(a, .inr (4, [.ref h, .ref w, .int o])), (h, .inr (3, [.long (f 0), .long (f 1), .long (f 2), .long (f 3)])), (w, .inr (3, [.long (v 0), .long (v 1), .long (v 2), .long (v 3)]))]
def to_bring (o : Int32) (f v g : Nat → Int64) : Bool × (Nat → Int64) × (Nat → Int64) := if o = -1 then (he_more f g, he_join f g, v) else (he_more v g, f, he_join v g)
