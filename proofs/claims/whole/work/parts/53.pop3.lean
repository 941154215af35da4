def pp_bi (p : Nat → Bool) (i : Nat) : Nat := if p i = true then 1 else 0
theorem nn_ct1 (p : Nat → Bool) (k : Nat) : nn_ct p (k + 1) = nn_ct p k + pp_bi p k := by
  simp only [nn_ct, pp_bi]
  split <;> rfl
theorem nn_ct8 (p : Nat → Bool) (m : Nat) : nn_ct p (m + 8) = nn_ct p m + (pp_bi p m + pp_bi p (m + 1) + pp_bi p (m + 2) + pp_bi p (m + 3) + pp_bi p (m + 4) + pp_bi p (m + 5) + pp_bi p (m + 6) + pp_bi p (m + 7)) := by
  rw [nn_ct1 p (m + 7), nn_ct1 p (m + 6), nn_ct1 p (m + 5), nn_ct1 p (m + 4), nn_ct1 p (m + 3), nn_ct1 p (m + 2), nn_ct1 p (m + 1), nn_ct1 p m]
  omega
theorem pp_bit {x : Int64} {i : Nat} (hi : i < 64) : pp_bi (bs_in x) i = pq x / 2 ^ i % 2 := by
  have h : bs_in x i = decide (pq x / 2 ^ i % 2 = 1) := by
    rw [bs_in_bv hi]
    show (pq x).testBit i = _
    rw [Nat.testBit_eq_decide_div_mod_eq]
  unfold pp_bi
  rw [h]
  by_cases q : pq x / 2 ^ i % 2 = 1
  · simp [q]
  · simp [q]; omega
theorem pp_byte {x : Int64} (j : Nat) (hj : j < 8) (X : Nat) (hX : X = pq x / 2 ^ (8 * j)) : pp_bi (bs_in x) (8 * j) + pp_bi (bs_in x) (8 * j + 1) + pp_bi (bs_in x) (8 * j + 2) + pp_bi (bs_in x) (8 * j + 3) + pp_bi (bs_in x) (8 * j + 4) + pp_bi (bs_in x) (8 * j + 5) + pp_bi (bs_in x) (8 * j + 6) + pp_bi (bs_in x) (8 * j + 7) = pp_g (X % 256) := by
  rw [pp_bit (by omega), pp_bit (by omega), pp_bit (by omega), pp_bit (by omega), pp_bit (by omega), pp_bit (by omega), pp_bit (by omega), pp_bit (by omega), pp_b4 _ (by omega)]
  rw [Nat.pow_add, Nat.pow_add, Nat.pow_add, Nat.pow_add, Nat.pow_add, Nat.pow_add, Nat.pow_add, ← Nat.div_div_eq_div_mul, ← Nat.div_div_eq_div_mul, ← Nat.div_div_eq_div_mul, ← Nat.div_div_eq_div_mul, ← Nat.div_div_eq_div_mul, ← Nat.div_div_eq_div_mul, ← Nat.div_div_eq_div_mul, ← hX]
  omega
theorem pp_all (x : Int64) : ((pp_by (pq x)).map pp_g).sum = nn_ct (bs_in x) 64 := by
  have e0 := nn_ct8 (bs_in x) 0
  have e1 := nn_ct8 (bs_in x) 8
  have e2 := nn_ct8 (bs_in x) 16
  have e3 := nn_ct8 (bs_in x) 24
  have e4 := nn_ct8 (bs_in x) 32
  have e5 := nn_ct8 (bs_in x) 40
  have e6 := nn_ct8 (bs_in x) 48
  have e7 := nn_ct8 (bs_in x) 56
  have b0 := pp_byte (x := x) 0 (by omega) (pq x) (by simp)
  have b1 := pp_byte (x := x) 1 (by omega) (pq x / 256) rfl
  have b2 := pp_byte (x := x) 2 (by omega) (pq x / 65536) rfl
  have b3 := pp_byte (x := x) 3 (by omega) (pq x / 16777216) rfl
  have b4 := pp_byte (x := x) 4 (by omega) (pq x / 4294967296) rfl
  have b5 := pp_byte (x := x) 5 (by omega) (pq x / 1099511627776) rfl
  have b6 := pp_byte (x := x) 6 (by omega) (pq x / 281474976710656) rfl
  have b7 := pp_byte (x := x) 7 (by omega) (pq x / 72057594037927936) rfl
  have z : nn_ct (bs_in x) 0 = 0 := rfl
  simp only [pp_by, List.map_cons, List.map_nil, List.sum_cons, List.sum_nil]
  simp only [Nat.zero_add, Nat.mul_zero, Nat.reduceMul, Nat.reduceAdd] at e0 e1 e2 e3 e4 e5 e6 e7 b0 b1 b2 b3 b4 b5 b6 b7
  omega
theorem nn_ct_cut {p : Nat → Bool} {n m : Nat} (h : n ≤ m) : nn_ct (fun i => decide (i < n) && p i) m = nn_ct p n := by
  induction m with
  | zero => obtain rfl : n = 0 := by omega
            rfl
  | succ m ih =>
    rw [nn_ct1]
    by_cases hm : n ≤ m
    · rw [ih hm]
      simp [pp_bi, show ¬ m < n by omega]
    · obtain rfl : n = m + 1 := by omega
      rw [nn_ct1]
      have e : nn_ct (fun i => decide (i < m + 1) && p i) m = nn_ct p m := nn_ct_ext fun i hi => by simp [show i < m + 1 by omega]
      rw [e]
      simp [pp_bi]
theorem lb_m {p : Nat → Bool} {n : Nat} (hn : n ≤ 64) : lb_pc (bs_m p n) = nI (nn_ct p n) := by
  rw [pp_fin, pp_all, nn_ct_ext (q := fun i => decide (i < n) && p i) (fun i hi => bs_in_m hn hi), nn_ct_cut hn]
