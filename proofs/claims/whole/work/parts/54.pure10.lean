
def dr_ix (x : Int64) (n : Nat) : Nat := pq x / 2 ^ 33 % n
theorem pq_inj {x y : Int64} (h : pq x = pq y) : x = y := congrArg UInt64.toInt64 (UInt64.toNat_inj.mp h)
theorem pq_lN {n : Nat} (h : n < 2 ^ 31) : pq (lN n) = n := by
  show (UInt64.ofNat n).toNat = n
  rw [UInt64.toNat_ofNat']
  omega
theorem pp_k33 : ((33 : Int32).toInt64.toUInt64 &&& Int64.toUInt64 63).toNat % 64 = 33 := by decide +kernel
theorem dr_eq {x : Int64} {n : Nat} (h0 : 0 < n) (hn : n ≤ 6) : ((x.toUInt64 >>> ((33 : Int32).toInt64.toUInt64 &&& Int64.toUInt64 63)).toInt64 - (x.toUInt64 >>> ((33 : Int32).toInt64.toUInt64 &&& Int64.toUInt64 63)).toInt64 / (nI n).toInt64 * (nI n).toInt64).toInt32 = nI (dr_ix x n) := by
  have hx := pq_lt x
  have e : (x.toUInt64 >>> ((33 : Int32).toInt64.toUInt64 &&& Int64.toUInt64 63)).toInt64 = lN (pq x / 2 ^ 33) := by
    apply pq_inj
    rw [pq_shr, pp_k33, pq_lN (by omega)]
  rw [e, nI_l (by omega), pk_lRem (by omega) h0 (by omega), lN_i]
  rfl
