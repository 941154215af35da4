def op_f : Nat → Nat → Int32
  | 0 => fun _ => 0
  | k + 1 => upd (op_f k) k (-1)
theorem op_f_i (k i : Nat) (h : i < k) : op_f k i = -1 := by
  induction k with
  | zero => omega
  | succ k ih =>
    rw [op_f]
    by_cases e : i = k
    · subst e; exact pk_us
    · rw [pk_un e]; exact ih (by omega)
theorem mw_i14 {ca : Nat → ClassId} {ob : Nat} {ad : Nat → Nat} {sc : Nat → Nat} {mI : Nat → Nat → Int32} {mL : Nat → Nat → Int64} {mZ : Nat → Nat → Bool} : mw ca ob ad sc mI mL mZ = mw ca ob ad sc (va_up mI 14 (mI 14)) mL mZ := rfl
theorem sy_pc {p : Program} {l : Launch} {e : Env} {R : Room} {s : State} {m : MethodId} {args : Array Value} {below : List Frame} {meth : Method} {c : Code} {H : Heap} {locs : List Loc} {cells slots : Nat} {Q : State → Prop} {pc pc2 : Nat} {ls : Array Slot} {rest : List Value} (h : pc = pc2) (k : W p l e R s m args below meth c H locs cells slots Q (F0 m pc2 ls rest)) : W p l e R s m args below meth c H locs cells slots Q (F0 m pc ls rest) := h ▸ k
