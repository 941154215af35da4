theorem nn_ff_none {p : Nat → Bool} {n : Nat} (h : nn_ff p n = none) : ∀ i, i < n → p i = false := by
  induction n with
  | zero => intro i hi; omega
  | succ n ih =>
    intro i hi
    simp only [nn_ff] at h
    cases hq : nn_ff p n with
    | some j => rw [hq] at h; cases h
    | none =>
      rw [hq] at h
      by_cases hp : p n = true
      · rw [if_pos hp] at h; cases h
      · by_cases e : i = n
        · subst e; exact Bool.eq_false_iff.mpr hp
        · exact ih hq i (by omega)
theorem nn_ff_min {p : Nat → Bool} {n j : Nat} (h : nn_ff p n = some j) : ∀ i, i < j → p i = false := by
  induction n with
  | zero => simp [nn_ff] at h
  | succ n ih =>
    simp only [nn_ff] at h
    cases hq : nn_ff p n with
    | some k => rw [hq] at h; cases h; exact ih hq
    | none =>
      rw [hq] at h
      by_cases hp : p n = true
      · simp only [if_pos hp, Option.some.injEq] at h
        subst h
        exact nn_ff_none hq
      · rw [if_neg hp] at h; cases h
theorem mo_cb_lt {mI : Nat → Nat → Int32} {z : Nat} {x : Int64} : ∀ {n j : Nat}, mo_cb mI z x n = some j → j < 10 * z + n := by
  intro n
  induction n with
  | zero => intro j h; cases h
  | succ n ih =>
    intro j h
    simp only [mo_cb] at h
    split at h
    · cases h; omega
    · have := ih h; omega
theorem mo_ch_lt {mI : Nat → Nat → Int32} {z : Nat} {x : Int64} : ∀ {n j : Nat}, mo_ch mI z x n = some j → j < 10 * z + n := by
  intro n
  induction n with
  | zero => intro j h; cases h
  | succ n ih =>
    intro j h
    simp only [mo_ch] at h
    split at h
    · rename_i k hk; cases h; have := ih hk; omega
    · split at h
      · cases h; omega
      · cases h
section SYB
variable {p : Program} {l : Launch} {e : Env} {R : Room} {s : State} {m : MethodId} {args : Array Value} {below : List Frame} {meth : Method} {c : Code} {H : Heap} {locs : List Loc} {cells slots : Nat} {Q : State → Prop}
variable {cc : ByteArray} {pc : Nat} {ls : Array Slot} {rest : List Value}
theorem sy_tll {x y x' y' : Int64} (h : x = x') (h2 : y = y') (k : W p l e R s m args below meth c H locs cells slots Q (F0 m pc ls (.long y' :: .long x' :: rest))) : W p l e R s m args below meth c H locs cells slots Q (F0 m pc ls (.long y :: .long x :: rest)) := by
  subst h; subst h2; exact k
end SYB
theorem co_add_lt {n : Nat} {fI : Nat → Nat → Int32} {fL : Nat → Nat → Int64} {d kd : Int32} {se v wh : Int64} {j : Nat} (hn : n ≤ 20) (h : (co_add n fI fL d kd se v wh).1 = some j) : j < 20 := by
  rw [co_add] at h
  cases hf : nn_ff (co_eq fI fL d kd se v wh) n with
  | some i =>
    rw [hf] at h
    have := (nn_ff_lt hf).1
    cases h
    omega
  | none =>
    rw [hf] at h
    by_cases q : 20 ≤ n
    · simp only [if_pos q] at h
      cases h
    · simp only [if_neg q, Option.some.injEq] at h
      omega
