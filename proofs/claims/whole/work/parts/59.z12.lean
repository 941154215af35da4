
theorem mw_z12 {ca : Nat → ClassId} {ob : Nat} {ad : Nat → Nat} {sc : Nat → Nat} {mI : Nat → Nat → Int32} {mL : Nat → Nat → Int64} {mZ : Nat → Nat → Bool} : mw ca ob ad sc mI mL mZ = mw ca ob ad sc mI mL (va_up mZ 12 (mZ 12)) := rfl
