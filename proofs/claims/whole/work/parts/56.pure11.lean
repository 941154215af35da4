
abbrev pl_S : Type := Int64 × Nat × (Nat → Nat → Int32) × (Nat → Nat → Int64) × (Nat → Nat → Bool)
def mo_pn (sc : Nat → Nat) (q : pl_S) : pl_S := if dr_ix (dr_next q.1) (sc 3) = dr_ix (dr_next (dr_next q.1)) (sc 3) then (dr_next (dr_next q.1), q.2.1, q.2.2) else (dr_next (dr_next q.1), q.2.1 + (if (mo_joinTo sc q.2.2.1 q.2.2.2.1 q.2.2.2.2 (dr_ix (dr_next q.1) (sc 3)) (dr_ix (dr_next (dr_next q.1)) (sc 3))).1 = true then 1 else 0), (mo_joinTo sc q.2.2.1 q.2.2.2.1 q.2.2.2.2 (dr_ix (dr_next q.1) (sc 3)) (dr_ix (dr_next (dr_next q.1)) (sc 3))).2.2)
def mo_pl (sc : Nat → Nat) (sd : Int64) (mI : Nat → Nat → Int32) (mL : Nat → Nat → Int64) (mZ : Nat → Nat → Bool) : Nat → pl_S
  | 0 => (sd, 0, mI, mL, mZ)
  | k + 1 => mo_pn sc (mo_pl sc sd mI mL mZ k)
def mo_play (sc : Nat → Nat) (mI : Nat → Nat → Int32) (mL : Nat → Nat → Int64) (mZ : Nat → Nat → Bool) (sd : Int64) (tn : Int32) : Int32 × ms_S := if sc 3 = 0 ∨ tn < 0 ∨ ¬ tn ≤ 1000 then (-1, sc, mI, mL, mZ) else (nI (mo_pl sc sd mI mL mZ tn.toNatClampNeg).2.1, sc, (mo_pl sc sd mI mL mZ tn.toNatClampNeg).2.2)
