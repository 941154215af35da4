theorem bs_b_bv : ∀ k, k < 64 → (bs_b k).toBitVec = BitVec.twoPow 64 k := by decide +kernel
theorem bs_in_bv {x : Int64} {k : Nat} (hk : k < 64) : bs_in x k = x.toBitVec.getLsbD k := by
  have e : ((x &&& bs_b k) = 0) ↔ x.toBitVec.getLsbD k = false := by
    rw [← Int64.toBitVec_inj, Int64.toBitVec_and, bs_b_bv k hk, BitVec.and_twoPow]
    cases h : x.toBitVec.getLsbD k
    · simp
    · simp only [if_true]
      constructor
      · intro q
        have := congrArg (fun b => b.getLsbD k) q
        simp [BitVec.getLsbD_twoPow, hk] at this
      · intro q; cases q
  unfold bs_in
  cases h : x.toBitVec.getLsbD k
  · simp [e.mpr h]
  · simp only [decide_eq_true_eq]
    intro q
    rw [e, h] at q
    cases q
theorem bs_ext {x y : Int64} (h : ∀ k, k < 64 → bs_in x k = bs_in y k) : x = y := by
  rw [← Int64.toBitVec_inj]
  apply BitVec.eq_of_getLsbD_eq
  intro i hi
  rw [← bs_in_bv hi, ← bs_in_bv hi]
  exact h i hi
theorem bs_in_or {x y : Int64} {k : Nat} (hk : k < 64) : bs_in (x ||| y) k = (bs_in x k || bs_in y k) := by
  rw [bs_in_bv hk, bs_in_bv hk, bs_in_bv hk, Int64.toBitVec_or, BitVec.getLsbD_or]
theorem bs_in_and {x y : Int64} {k : Nat} (hk : k < 64) : bs_in (x &&& y) k = (bs_in x k && bs_in y k) := by
  rw [bs_in_bv hk, bs_in_bv hk, bs_in_bv hk, Int64.toBitVec_and, BitVec.getLsbD_and]
theorem bs_m1 : ∀ k, k < 64 → bs_in (-1) k = true := by decide +kernel
theorem bs_in_not {x : Int64} {k : Nat} (hk : k < 64) : bs_in (x ^^^ (-1)) k = !bs_in x k := by
  have h1 := bs_m1 k hk
  rw [bs_in_bv hk] at h1
  rw [bs_in_bv hk, bs_in_bv hk, Int64.toBitVec_xor, BitVec.getLsbD_xor, h1]
  simp
theorem bs_in_0 : ∀ k, k < 64 → bs_in 0 k = false := by decide +kernel
theorem bs_in_b {j k : Nat} (hj : j < 64) (hk : k < 64) : bs_in (bs_b j) k = decide (k = j) := by
  rw [bs_in_bv hk, bs_b_bv j hj, BitVec.getLsbD_twoPow]
  by_cases h : k = j
  · subst h; simp [hk]
  · have : ¬ j = k := fun q => h q.symm
    simp [h, this]
theorem bs_in_m {p : Nat → Bool} {n k : Nat} (hn : n ≤ 64) (hk : k < 64) : bs_in (bs_m p n) k = (decide (k < n) && p k) := by
  induction n with
  | zero => simp [bs_m, bs_in_0 k hk]
  | succ n ih =>
    have ih := ih (by omega)
    simp only [bs_m]
    by_cases hp : p n = true
    · rw [if_pos hp, bs_in_or hk, ih, bs_in_b (by omega) hk]
      by_cases h : k = n
      · subst h; simp [hp]
      · by_cases h2 : k < n
        · simp [h, h2, show k < n + 1 by omega]
        · simp [h, h2, show ¬ k < n + 1 by omega]
    · rw [if_neg hp, ih]
      by_cases h : k = n
      · subst h; simp [hp]
      · by_cases h2 : k < n
        · simp [h2, show k < n + 1 by omega]
        · simp [h2, show ¬ k < n + 1 by omega]
