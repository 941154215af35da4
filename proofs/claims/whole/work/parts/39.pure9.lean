
def mo_la (mI : Nat → Nat → Int32) (mZ : Nat → Nat → Bool) (z : Nat) (dv : Int32) : Nat → Int32
  | 0 => -1
  | k + 1 => if (mZ 10 (60 * z + k) = true ∧ mI 2 k = dv) ∧ ¬ mI 3 k ≤ mo_la mI mZ z dv k then mI 3 k else mo_la mI mZ z dv k
def mo_bw (be nx : Int32) : Int32 := if 0 ≤ be then nx - be - 1 else 0
def mo_gp (mI : Nat → Nat → Int32) (mZ : Nat → Nat → Bool) (n z : Nat) (dv la : Int32) : Nat → Int32 → Int32 → Int32 → Int32
  | 0, _, _, _ => -1
  | f + 1, lf, be, nx => if nx < 0 then -1 else if lf < mo_bw be nx then be + 1 + lf else mo_gp mI mZ n z dv la f (lf - mo_bw be nx) nx (mo_nx mI mZ z dv la nx n)
def mo_gm (x : Int32) : Nat := if x < 0 then 0 else (2147483648 - x.toInt).toNat
def mo_gap (sc : Nat → Nat) (mI : Nat → Nat → Int32) (mZ : Nat → Nat → Bool) (d dv pk : Int32) : Int32 := if mo_ok (sc 3) d = true ∧ 0 ≤ pk then mo_gp mI mZ (sc 1) d.toNatClampNeg dv (mo_la mI mZ d.toNatClampNeg dv (sc 1)) 2147483649 pk (-1) (mo_nx mI mZ d.toNatClampNeg dv (mo_la mI mZ d.toNatClampNeg dv (sc 1)) (-1) (sc 1)) else -1
theorem mo_nx_gt {mI : Nat → Nat → Int32} {mZ : Nat → Nat → Bool} {z : Nat} {d la ab : Int32} (n : Nat) : mo_nx mI mZ z d la ab n = -1 ∨ ¬ mo_nx mI mZ z d la ab n ≤ ab := by
  induction n with
  | zero => exact Or.inl rfl
  | succ n ih =>
    simp only [mo_nx]
    split
    · rename_i h; exact Or.inr h.1.2.2.2
    · exact ih
theorem mo_gm_le (x : Int32) : mo_gm x ≤ 2147483648 := by
  unfold mo_gm
  split
  · omega
  · rename_i h
    have h2 : ¬ x.toInt < 0 := fun q => h (by rw [Int32.lt_iff_toInt_lt]; simpa using q)
    omega
theorem mo_gm_lt {mI : Nat → Nat → Int32} {mZ : Nat → Nat → Bool} {z n : Nat} {d la nx : Int32} (h : ¬ nx < 0) : mo_gm (mo_nx mI mZ z d la nx n) < mo_gm nx := by
  have h0 : ¬ nx.toInt < 0 := fun q => h (by rw [Int32.lt_iff_toInt_lt]; simpa using q)
  have hlt := Int32.toInt_lt nx
  rcases mo_nx_gt (mI := mI) (mZ := mZ) (z := z) (d := d) (la := la) (ab := nx) n with q | q
  · rw [q]
    unfold mo_gm
    rw [if_neg h, if_pos (by decide)]
    omega
  · rw [Int32.le_iff_toInt_le] at q
    unfold mo_gm
    rw [if_neg h]
    split
    · omega
    · omega

def mo_tp (sc : Nat → Nat) (mI : Nat → Nat → Int32) (mL : Nat → Nat → Int64) (mZ : Nat → Nat → Bool) (d dv kd : Int32) (i : Nat) : Bool := mo_ok (sc 3) d && (decide (mI 2 i = dv) && (decide (mI 5 i = kd) && mo_cf mI mL mZ (sc 1) d.toNatClampNeg i))
def mo_tr (mI : Nat → Nat → Int32) (mL : Nat → Nat → Int64) (mZ : Nat → Nat → Bool) (z j i x : Nat) : Bool := !decide (x = i) && (mo_sk mI x j && (mo_he mI mL mZ z x && mo_bf mI mL x i))
def mo_tq (sc : Nat → Nat) (mI : Nat → Nat → Int32) (mL : Nat → Nat → Int64) (mZ : Nat → Nat → Bool) (d wh : Int32) : Option Nat → Nat → Bool
  | none, _ => false
  | some j, i => mo_sk mI i j && (mo_he mI mL mZ d.toNatClampNeg i && decide (nI (nn_ct (mo_tr mI mL mZ d.toNatClampNeg j i) (sc 1)) = wh))
def mo_sv (sc : Nat → Nat) (mI : Nat → Nat → Int32) (mL : Nat → Nat → Int64) (mZ : Nat → Nat → Bool) (z : Nat) : Option Nat → Int32 × ms_S
  | none => (-1, sc, mI, mL, mZ)
  | some i => (nI (mo_cn mI mL (va_up mZ 11 (va_up (mZ 11) (60 * z + i) true)) (sc 1) z), sc, mI, mL, va_up mZ 11 (va_up (mZ 11) (60 * z + i) true))
def mo_settle (sc : Nat → Nat) (mI : Nat → Nat → Int32) (mL : Nat → Nat → Int64) (mZ : Nat → Nat → Bool) (d dv kd wh : Int32) : Int32 × ms_S := mo_sv sc mI mL mZ d.toNatClampNeg (nn_ff (mo_tq sc mI mL mZ d wh (nn_fm (mo_tp sc mI mL mZ d dv kd) (mo_kb mI) (sc 1))) (sc 1))
