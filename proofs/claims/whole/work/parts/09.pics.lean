def tw (ca : Nat → ClassId) (h0 : Nat) (ad : Nat → Nat) (n : Nat) (fI : Nat → Nat → Int32) (fL : Nat → Nat → Int64) : va_W :=
  [(h0, .inr (5, [.ref (ad 0), .ref (ad 1), .ref (ad 2), .ref (ad 3), .ref (ad 4), .ref (ad 5), .ref (ad 6), .int (nI n)])),
   (ad 0, .inl (ca 0, 60, .inl (fI 0))), (ad 1, .inl (ca 0, 60, .inl (fI 1))), (ad 2, .inl (ca 0, 60, .inl (fI 2))), (ad 3, .inl (ca 0, 60, .inl (fI 3))),
   (ad 4, .inl (ca 1, 60, .inr (.inl (fL 0)))), (ad 5, .inl (ca 1, 60, .inr (.inl (fL 1)))), (ad 6, .inl (ca 1, 60, .inr (.inl (fL 2))))]
def cw (ca : Nat → ClassId) (h0 : Nat) (ad : Nat → Nat) (n : Nat) (fI : Nat → Nat → Int32) (fL : Nat → Nat → Int64) : va_W :=
  [(h0, .inr (6, [.ref (ad 0), .ref (ad 1), .ref (ad 2), .ref (ad 3), .ref (ad 4), .int (nI n)])),
   (ad 0, .inl (ca 0, 20, .inl (fI 0))), (ad 1, .inl (ca 0, 20, .inl (fI 1))),
   (ad 2, .inl (ca 1, 20, .inr (.inl (fL 0)))), (ad 3, .inl (ca 1, 20, .inr (.inl (fL 1)))), (ad 4, .inl (ca 1, 20, .inr (.inl (fL 2))))]
def kw (ca : Nat → ClassId) (h0 : Nat) (ad : Nat → Nat) (n : Nat) (fL : Nat → Nat → Int64) : va_W :=
  [(h0, .inr (2, [.ref (ad 0), .ref (ad 1), .int (nI n)])),
   (ad 0, .inl (ca 1, 10, .inr (.inl (fL 0)))), (ad 1, .inl (ca 1, 10, .inr (.inl (fL 1))))]
def mw (ca : Nat → ClassId) (ob : Nat) (ad : Nat → Nat) (sc : Nat → Nat) (mI : Nat → Nat → Int32) (mL : Nat → Nat → Int64) (mZ : Nat → Nat → Bool) : va_W :=
  [(ob, .inr (7, [.int (nI (sc 0)), .ref (ad 0), .ref (ad 1), .int (nI (sc 1)), .ref (ad 2), .ref (ad 3), .ref (ad 4), .ref (ad 5), .ref (ad 6), .ref (ad 7), .ref (ad 8), .int (nI (sc 2)), .ref (ad 9), .int (nI (sc 3)), .int (nI (sc 4)), .ref (ad 10), .ref (ad 11), .ref (ad 12), .ref (ad 13), .ref (ad 14), .ref (ad 15), .ref (ad 16), .ref (ad 17)])),
   (ad 0, .inl (ca 0, 4, .inl (mI 0))),
   (ad 1, .inl (ca 1, 4, .inr (.inl (mL 1)))),
   (ad 2, .inl (ca 0, 60, .inl (mI 2))),
   (ad 3, .inl (ca 0, 60, .inl (mI 3))),
   (ad 4, .inl (ca 0, 60, .inl (mI 4))),
   (ad 5, .inl (ca 0, 60, .inl (mI 5))),
   (ad 6, .inl (ca 0, 60, .inl (mI 6))),
   (ad 7, .inl (ca 1, 60, .inr (.inl (mL 7)))),
   (ad 8, .inl (ca 0, 60, .inl (mI 8))),
   (ad 9, .inl (ca 1, 100, .inr (.inl (mL 9)))),
   (ad 10, .inl (ca 2, 720, .inl (fun i => bI (mZ 10 i)))),
   (ad 11, .inl (ca 2, 720, .inl (fun i => bI (mZ 11 i)))),
   (ad 12, .inl (ca 2, 240, .inl (fun i => bI (mZ 12 i)))),
   (ad 13, .inl (ca 1, 12, .inr (.inl (mL 13)))),
   (ad 14, .inl (ca 0, 6, .inl (mI 14))),
   (ad 15, .inl (ca 0, 4, .inl (mI 15))),
   (ad 16, .inl (ca 0, 40, .inl (mI 16))),
   (ad 17, .inl (ca 0, 40, .inl (mI 17)))]
theorem mw_s0 {ca : Nat → ClassId} {ob : Nat} {ad : Nat → Nat} {sc : Nat → Nat} {mI : Nat → Nat → Int32} {mL : Nat → Nat → Int64} {mZ : Nat → Nat → Bool} {x : Nat → Int32} : (mw ca ob ad sc mI mL mZ).set 1 (ad 0, .inl (ca 0, 4, .inl x)) = mw ca ob ad sc (va_up mI 0 x) mL mZ := rfl
theorem mw_s1 {ca : Nat → ClassId} {ob : Nat} {ad : Nat → Nat} {sc : Nat → Nat} {mI : Nat → Nat → Int32} {mL : Nat → Nat → Int64} {mZ : Nat → Nat → Bool} {x : Nat → Int64} : (mw ca ob ad sc mI mL mZ).set 2 (ad 1, .inl (ca 1, 4, .inr (.inl x))) = mw ca ob ad sc mI (va_up mL 1 x) mZ := rfl
theorem mw_s2 {ca : Nat → ClassId} {ob : Nat} {ad : Nat → Nat} {sc : Nat → Nat} {mI : Nat → Nat → Int32} {mL : Nat → Nat → Int64} {mZ : Nat → Nat → Bool} {x : Nat → Int32} : (mw ca ob ad sc mI mL mZ).set 3 (ad 2, .inl (ca 0, 60, .inl x)) = mw ca ob ad sc (va_up mI 2 x) mL mZ := rfl
theorem mw_s3 {ca : Nat → ClassId} {ob : Nat} {ad : Nat → Nat} {sc : Nat → Nat} {mI : Nat → Nat → Int32} {mL : Nat → Nat → Int64} {mZ : Nat → Nat → Bool} {x : Nat → Int32} : (mw ca ob ad sc mI mL mZ).set 4 (ad 3, .inl (ca 0, 60, .inl x)) = mw ca ob ad sc (va_up mI 3 x) mL mZ := rfl
theorem mw_s4 {ca : Nat → ClassId} {ob : Nat} {ad : Nat → Nat} {sc : Nat → Nat} {mI : Nat → Nat → Int32} {mL : Nat → Nat → Int64} {mZ : Nat → Nat → Bool} {x : Nat → Int32} : (mw ca ob ad sc mI mL mZ).set 5 (ad 4, .inl (ca 0, 60, .inl x)) = mw ca ob ad sc (va_up mI 4 x) mL mZ := rfl
theorem mw_s5 {ca : Nat → ClassId} {ob : Nat} {ad : Nat → Nat} {sc : Nat → Nat} {mI : Nat → Nat → Int32} {mL : Nat → Nat → Int64} {mZ : Nat → Nat → Bool} {x : Nat → Int32} : (mw ca ob ad sc mI mL mZ).set 6 (ad 5, .inl (ca 0, 60, .inl x)) = mw ca ob ad sc (va_up mI 5 x) mL mZ := rfl
theorem mw_s6 {ca : Nat → ClassId} {ob : Nat} {ad : Nat → Nat} {sc : Nat → Nat} {mI : Nat → Nat → Int32} {mL : Nat → Nat → Int64} {mZ : Nat → Nat → Bool} {x : Nat → Int32} : (mw ca ob ad sc mI mL mZ).set 7 (ad 6, .inl (ca 0, 60, .inl x)) = mw ca ob ad sc (va_up mI 6 x) mL mZ := rfl
theorem mw_s7 {ca : Nat → ClassId} {ob : Nat} {ad : Nat → Nat} {sc : Nat → Nat} {mI : Nat → Nat → Int32} {mL : Nat → Nat → Int64} {mZ : Nat → Nat → Bool} {x : Nat → Int64} : (mw ca ob ad sc mI mL mZ).set 8 (ad 7, .inl (ca 1, 60, .inr (.inl x))) = mw ca ob ad sc mI (va_up mL 7 x) mZ := rfl
theorem mw_s8 {ca : Nat → ClassId} {ob : Nat} {ad : Nat → Nat} {sc : Nat → Nat} {mI : Nat → Nat → Int32} {mL : Nat → Nat → Int64} {mZ : Nat → Nat → Bool} {x : Nat → Int32} : (mw ca ob ad sc mI mL mZ).set 9 (ad 8, .inl (ca 0, 60, .inl x)) = mw ca ob ad sc (va_up mI 8 x) mL mZ := rfl
theorem mw_s9 {ca : Nat → ClassId} {ob : Nat} {ad : Nat → Nat} {sc : Nat → Nat} {mI : Nat → Nat → Int32} {mL : Nat → Nat → Int64} {mZ : Nat → Nat → Bool} {x : Nat → Int64} : (mw ca ob ad sc mI mL mZ).set 10 (ad 9, .inl (ca 1, 100, .inr (.inl x))) = mw ca ob ad sc mI (va_up mL 9 x) mZ := rfl
theorem mw_s10 {ca : Nat → ClassId} {ob : Nat} {ad : Nat → Nat} {sc : Nat → Nat} {mI : Nat → Nat → Int32} {mL : Nat → Nat → Int64} {mZ : Nat → Nat → Bool} {x : Nat → Bool} : (mw ca ob ad sc mI mL mZ).set 11 (ad 10, .inl (ca 2, 720, .inl (fun i => bI (x i)))) = mw ca ob ad sc mI mL (va_up mZ 10 x) := rfl
theorem mw_s11 {ca : Nat → ClassId} {ob : Nat} {ad : Nat → Nat} {sc : Nat → Nat} {mI : Nat → Nat → Int32} {mL : Nat → Nat → Int64} {mZ : Nat → Nat → Bool} {x : Nat → Bool} : (mw ca ob ad sc mI mL mZ).set 12 (ad 11, .inl (ca 2, 720, .inl (fun i => bI (x i)))) = mw ca ob ad sc mI mL (va_up mZ 11 x) := rfl
theorem mw_s12 {ca : Nat → ClassId} {ob : Nat} {ad : Nat → Nat} {sc : Nat → Nat} {mI : Nat → Nat → Int32} {mL : Nat → Nat → Int64} {mZ : Nat → Nat → Bool} {x : Nat → Bool} : (mw ca ob ad sc mI mL mZ).set 13 (ad 12, .inl (ca 2, 240, .inl (fun i => bI (x i)))) = mw ca ob ad sc mI mL (va_up mZ 12 x) := rfl
theorem mw_s13 {ca : Nat → ClassId} {ob : Nat} {ad : Nat → Nat} {sc : Nat → Nat} {mI : Nat → Nat → Int32} {mL : Nat → Nat → Int64} {mZ : Nat → Nat → Bool} {x : Nat → Int64} : (mw ca ob ad sc mI mL mZ).set 14 (ad 13, .inl (ca 1, 12, .inr (.inl x))) = mw ca ob ad sc mI (va_up mL 13 x) mZ := rfl
theorem mw_s14 {ca : Nat → ClassId} {ob : Nat} {ad : Nat → Nat} {sc : Nat → Nat} {mI : Nat → Nat → Int32} {mL : Nat → Nat → Int64} {mZ : Nat → Nat → Bool} {x : Nat → Int32} : (mw ca ob ad sc mI mL mZ).set 15 (ad 14, .inl (ca 0, 6, .inl x)) = mw ca ob ad sc (va_up mI 14 x) mL mZ := rfl
theorem mw_s15 {ca : Nat → ClassId} {ob : Nat} {ad : Nat → Nat} {sc : Nat → Nat} {mI : Nat → Nat → Int32} {mL : Nat → Nat → Int64} {mZ : Nat → Nat → Bool} {x : Nat → Int32} : (mw ca ob ad sc mI mL mZ).set 16 (ad 15, .inl (ca 0, 4, .inl x)) = mw ca ob ad sc (va_up mI 15 x) mL mZ := rfl
theorem mw_s16 {ca : Nat → ClassId} {ob : Nat} {ad : Nat → Nat} {sc : Nat → Nat} {mI : Nat → Nat → Int32} {mL : Nat → Nat → Int64} {mZ : Nat → Nat → Bool} {x : Nat → Int32} : (mw ca ob ad sc mI mL mZ).set 17 (ad 16, .inl (ca 0, 40, .inl x)) = mw ca ob ad sc (va_up mI 16 x) mL mZ := rfl
theorem mw_s17 {ca : Nat → ClassId} {ob : Nat} {ad : Nat → Nat} {sc : Nat → Nat} {mI : Nat → Nat → Int32} {mL : Nat → Nat → Int64} {mZ : Nat → Nat → Bool} {x : Nat → Int32} : (mw ca ob ad sc mI mL mZ).set 18 (ad 17, .inl (ca 0, 40, .inl x)) = mw ca ob ad sc (va_up mI 17 x) mL mZ := rfl

def hw (a : Nat) (f : Nat → Int64) : va_W := [(a, .inr (3, [.long (f 0), .long (f 1), .long (f 2), .long (f 3)]))]
def xw (ca : Nat → ClassId) (g : Nat → Nat) (nd ns nb : Nat) : va_W :=
  [(g 0, .inr (0, [.ref (g 1), .ref (g 2), .ref (g 3), .ref (g 11), .int (nI nd), .int (nI ns), .int (nI nb)])),
   (g 1, .inl (ca 3, 4, .inr (.inr (.inr (.inr (fun i => if i < nd then some (g (20 + 4 * i)) else none)))))),
   (g 2, .inl (ca 4, 6, .inr (.inr (.inr (.inr (fun i => if i < ns then some (g (40 + 3 * i)) else none))))))]
def dw (ca : Nat → ClassId) (g : Nat → Nat) (dl : Nat → Nat) (df : Nat → Int64) (dm : Nat → Nat) (dk : Nat → Nat → Nat → Int64) (d : Nat) : va_W :=
  (g (20 + 4 * d), .inr (1, [.ref (g (21 + 4 * d)), .int (nI (dl d)), .long (df d)])) :: kw ca (g (21 + 4 * d)) (fun k => g (22 + 4 * d + k)) (dm d) (dk d)
def sw (g : Nat → Nat) (so : Nat → Int32) (sh sv : Nat → Nat → Int64) (j : Nat) : va_W :=
  [(g (40 + 3 * j), .inr (4, [.ref (g (41 + 3 * j)), .ref (g (42 + 3 * j)), .int (so j)])),
   (g (41 + 3 * j), .inr (3, [.long (sh j 0), .long (sh j 1), .long (sh j 2), .long (sh j 3)])),
   (g (42 + 3 * j), .inr (3, [.long (sv j 0), .long (sv j 1), .long (sv j 2), .long (sv j 3)]))]
