def pp_v : List Nat → Nat
  | [] => 0
  | a :: t => a + 256 * pp_v t
theorem pp_and {a b A B : Nat} (ha : a < 256) (hb : b < 256) : (a + 256 * A) &&& (b + 256 * B) = (a &&& b) + 256 * (A &&& B) := by
  apply Nat.eq_of_testBit_eq
  intro j
  have e : ∀ (x X : Nat), x + 256 * X = 2 ^ 8 * X + x := fun x X => by omega
  rw [Nat.testBit_and, e a A, e b B, e (a &&& b) (A &&& B), Nat.testBit_two_pow_mul_add A (show a < 2 ^ 8 from ha), Nat.testBit_two_pow_mul_add B (show b < 2 ^ 8 from hb), Nat.testBit_two_pow_mul_add (A &&& B) (show a &&& b < 2 ^ 8 from Nat.lt_of_le_of_lt Nat.and_le_left ha)]
  by_cases h : j < 8
  · simp [h]
  · simp [h]
def pp_s1 (a : Nat) : Nat := a - (a / 2 &&& 85)
def pp_s2 (a : Nat) : Nat := (a &&& 51) + (a / 4 &&& 51)
def pp_rep (b : Nat) : Nat → Nat
  | 0 => 0
  | m + 1 => b + 256 * pp_rep b m
theorem pp_h1 : ∀ a, a < 256 → ∀ c, c < 2 → (a / 2 + 128 * c) &&& 85 = a / 2 &&& 85 := by decide +kernel
theorem pp_h2 : ∀ a, a < 256 → ∀ c, c < 4 → (a / 4 + 64 * c) &&& 51 = a / 4 &&& 51 := by decide +kernel
theorem pp_l1 : ∀ a, a < 256 → (a / 2 &&& 85) ≤ a := by decide +kernel
theorem pp_l2 : ∀ a, a < 256 → pp_s2 (pp_s1 a) % 16 ≤ 4 ∧ pp_s2 (pp_s1 a) / 16 ≤ 4 := by decide +kernel
theorem pp_le : ∀ (t : List Nat), (∀ a ∈ t, a < 256) → ((pp_v t) / 2 &&& pp_rep 85 t.length) ≤ pp_v t := fun t _ => Nat.le_trans Nat.and_le_left (Nat.div_le_self _ _)
theorem pp_a1 : ∀ (t : List Nat), (∀ a ∈ t, a < 256) → pp_v t / 2 &&& pp_rep 85 t.length = pp_v (t.map fun a => a / 2 &&& 85) := by
  intro t
  induction t with
  | nil => intro _; rfl
  | cons a t ih =>
    intro h
    have ha := h a List.mem_cons_self
    have ih := ih (fun x hx => h x (List.mem_cons_of_mem _ hx))
    have e : (a + 256 * pp_v t) / 2 = (a / 2 + 128 * (pp_v t % 2)) + 256 * (pp_v t / 2) := by omega
    simp only [pp_v, List.length_cons, pp_rep, List.map_cons]
    rw [e, pp_and (by omega) (by omega), ih, pp_h1 a ha _ (by omega)]
theorem pp_m1 : ∀ (t : List Nat), (∀ a ∈ t, a < 256) → pp_v t - (pp_v t / 2 &&& pp_rep 85 t.length) = pp_v (t.map pp_s1) := by
  intro t h
  rw [pp_a1 t h]
  induction t with
  | nil => rfl
  | cons a t ih =>
    have ha := h a List.mem_cons_self
    have ht := fun x hx => h x (List.mem_cons_of_mem a hx)
    have ih := ih ht
    have h2 := pp_le t ht
    rw [pp_a1 t ht] at h2
    have h1 := pp_l1 a ha
    simp only [pp_v, List.map_cons, pp_s1] at *
    omega
theorem pp_a2 : ∀ (t : List Nat), (∀ a ∈ t, a < 256) → (pp_v t &&& pp_rep 51 t.length) + (pp_v t / 4 &&& pp_rep 51 t.length) = pp_v (t.map pp_s2) := by
  intro t
  induction t with
  | nil => intro _; rfl
  | cons a t ih =>
    intro h
    have ha := h a List.mem_cons_self
    have ih := ih (fun x hx => h x (List.mem_cons_of_mem _ hx))
    have e : (a + 256 * pp_v t) / 4 = (a / 4 + 64 * (pp_v t % 4)) + 256 * (pp_v t / 4) := by omega
    simp only [pp_v, List.length_cons, pp_rep, List.map_cons, pp_s2]
    rw [e, pp_and ha (show (51 : Nat) < 256 by decide), pp_and (a := a / 4 + 64 * (pp_v t % 4)) (by omega) (show (51 : Nat) < 256 by decide), pp_h2 a ha _ (by omega), ← ih]
    omega
theorem pp_h3 : ∀ a, a < 256 → a % 16 ≤ 4 → a / 16 ≤ 4 → ∀ c, c < 5 → (a + a / 16 + 16 * c) &&& 15 = a % 16 + a / 16 ∧ a + a / 16 + 16 * c < 256 := by decide +kernel
theorem pp_a3 : ∀ (t : List Nat), (∀ a ∈ t, a < 256 ∧ a % 16 ≤ 4 ∧ a / 16 ≤ 4) → (pp_v t + pp_v t / 16) &&& pp_rep 15 t.length = pp_v (t.map fun a => a % 16 + a / 16) ∧ pp_v t % 16 ≤ 4 := by
  intro t
  induction t with
  | nil => intro _; exact ⟨rfl, by decide⟩
  | cons a t ih =>
    intro h
    obtain ⟨ha, h1, h2⟩ := h a List.mem_cons_self
    obtain ⟨i1, i2⟩ := ih (fun x hx => h x (List.mem_cons_of_mem _ hx))
    have e : (a + 256 * pp_v t) + (a + 256 * pp_v t) / 16 = (a + a / 16 + 16 * (pp_v t % 16)) + 256 * (pp_v t + pp_v t / 16) := by omega
    obtain ⟨q1, q2⟩ := pp_h3 a ha h1 h2 (pp_v t % 16) (by omega)
    simp only [pp_v, List.length_cons, pp_rep, List.map_cons]
    rw [e, pp_and q2 (by omega), i1, q1]
    exact ⟨rfl, by omega⟩
def pq (x : Int64) : Nat := x.toUInt64.toNat
theorem pq_lt (x : Int64) : pq x < 18446744073709551616 := x.toUInt64.toNat_lt
theorem pq_add (x y : Int64) : pq (x + y) = (pq x + pq y) % 18446744073709551616 := by
  show (x.toUInt64 + y.toUInt64).toNat = _
  exact UInt64.toNat_add _ _
theorem pq_and (x y : Int64) : pq (x &&& y) = pq x &&& pq y := UInt64.toNat_and _ _
theorem pq_sub {x y : Int64} (h : pq y ≤ pq x) : pq (x - y) = pq x - pq y := by
  show (x.toUInt64 - y.toUInt64).toNat = _
  exact UInt64.toNat_sub_of_le _ _ (UInt64.le_iff_toNat_le.mpr h)
theorem pq_shr (x : Int64) (s : UInt64) : pq (x.toUInt64 >>> s).toInt64 = pq x / 2 ^ (s.toNat % 64) := by
  show (x.toUInt64 >>> s).toNat = _
  rw [UInt64.toNat_shiftRight, Nat.shiftRight_eq_div_pow]
  rfl
def pp_by (n : Nat) : List Nat := [n % 256, n / 256 % 256, n / 65536 % 256, n / 16777216 % 256, n / 4294967296 % 256, n / 1099511627776 % 256, n / 281474976710656 % 256, n / 72057594037927936 % 256]
theorem pp_of {n : Nat} (h : n < 18446744073709551616) : pp_v (pp_by n) = n := by
  simp only [pp_by, pp_v]
  omega
theorem pp_b1 : ∀ a, a < 256 → pp_s1 a < 256 := by decide +kernel
theorem pp_b2 : ∀ a, a < 256 → pp_s2 (pp_s1 a) ≤ 68 := by decide +kernel
def pp_g (a : Nat) : Nat := pp_s2 (pp_s1 a) % 16 + pp_s2 (pp_s1 a) / 16
theorem pp_b3 : ∀ a, a < 256 → pp_g a ≤ 8 := by decide +kernel
theorem pp_b4 : ∀ a, a < 256 → pp_g a = a % 2 + a / 2 % 2 + a / 4 % 2 + a / 8 % 2 + a / 16 % 2 + a / 32 % 2 + a / 64 % 2 + a / 128 % 2 := by decide +kernel
theorem pp_c1 : pq 6148914691236517205 = pp_rep 85 8 := by decide +kernel
theorem pp_c2 : pq 3689348814741910323 = pp_rep 51 8 := by decide +kernel
theorem pp_c3 : pq 1085102592571150095 = pp_rep 15 8 := by decide +kernel
theorem pp_k1 : ((1 : Int32).toInt64.toUInt64 &&& Int64.toUInt64 63).toNat % 64 = 1 := by decide +kernel
theorem pp_k2 : ((2 : Int32).toInt64.toUInt64 &&& Int64.toUInt64 63).toNat % 64 = 2 := by decide +kernel
theorem pp_k4 : ((4 : Int32).toInt64.toUInt64 &&& Int64.toUInt64 63).toNat % 64 = 4 := by decide +kernel
theorem pp_k8 : ((8 : Int32).toInt64.toUInt64 &&& Int64.toUInt64 63).toNat % 64 = 8 := by decide +kernel
theorem pp_k16 : ((16 : Int32).toInt64.toUInt64 &&& Int64.toUInt64 63).toNat % 64 = 16 := by decide +kernel
theorem pp_k32 : ((32 : Int32).toInt64.toUInt64 &&& Int64.toUInt64 63).toNat % 64 = 32 := by decide +kernel
theorem pp_x1 {x : Int64} {a b c d e f g h : Nat} (ha : a < 256) (hb : b < 256) (hc : c < 256) (hd : d < 256) (he : e < 256) (hf : f < 256) (hg : g < 256) (hh : h < 256) (hx : pq x = pp_v [a, b, c, d, e, f, g, h]) : pq (lb_1 x) = pp_v ([a, b, c, d, e, f, g, h].map pp_s1) := by
  have hl : ∀ z ∈ [a, b, c, d, e, f, g, h], z < 256 := by
    intro z hz
    simp only [List.mem_cons, List.not_mem_nil, or_false] at hz
    rcases hz with rfl | rfl | rfl | rfl | rfl | rfl | rfl | rfl <;> assumption
  have h1 := pp_m1 _ hl
  have h2 := pp_le _ hl
  unfold lb_1
  rw [pq_sub]
  · rw [pq_and, pq_shr, pp_k1, pp_c1, hx]; exact h1
  · rw [pq_and, pq_shr, pp_k1, pp_c1, hx]; exact h2
theorem pp_x2 {x : Int64} {a b c d e f g h : Nat} (ha : a < 256) (hb : b < 256) (hc : c < 256) (hd : d < 256) (he : e < 256) (hf : f < 256) (hg : g < 256) (hh : h < 256) (hx : pq x = pp_v [a, b, c, d, e, f, g, h]) (hs : ∀ z ∈ [a, b, c, d, e, f, g, h], pp_s2 z ≤ 68) : pq (lb_2 x) = pp_v ([a, b, c, d, e, f, g, h].map pp_s2) := by
  have hl : ∀ z ∈ [a, b, c, d, e, f, g, h], z < 256 := by
    intro z hz
    simp only [List.mem_cons, List.not_mem_nil, or_false] at hz
    rcases hz with rfl | rfl | rfl | rfl | rfl | rfl | rfl | rfl <;> assumption
  have h1 := pp_a2 _ hl
  have q0 := hs a (by simp)
  have q1 := hs b (by simp)
  have q2 := hs c (by simp)
  have q3 := hs d (by simp)
  have q4 := hs e (by simp)
  have q5 := hs f (by simp)
  have q6 := hs g (by simp)
  have q7 := hs h (by simp)
  unfold lb_2
  rw [pq_add, pq_and, pq_and, pq_shr, pp_k2, pp_c2, hx]
  have h2 : (pp_v [a, b, c, d, e, f, g, h] &&& pp_rep 51 8) + (pp_v [a, b, c, d, e, f, g, h] / 2 ^ 2 &&& pp_rep 51 8) = pp_v ([a, b, c, d, e, f, g, h].map pp_s2) := h1
  rw [h2]
  apply Nat.mod_eq_of_lt
  simp only [List.map_cons, List.map_nil, pp_v]
  omega
