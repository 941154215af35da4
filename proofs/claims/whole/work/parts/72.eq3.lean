abbrev cs : Type := Nat × Nat × Nat × Nat × Nat × (Nat → Nat → Int32) × (Nat → Nat → Int64) × (Nat → Nat → Int32) × (Nat → Nat → Int64) × (Nat → Nat) × (Nat → Int64) × (Nat → Nat) × (Nat → Nat → Nat → Int64) × (Nat → Int32) × (Nat → Nat → Int64) × (Nat → Nat → Int64)
def cs.nd (c : cs) : Nat := c.1
def cs.ns (c : cs) : Nat := c.2.1
def cs.nb (c : cs) : Nat := c.2.2.1
def cs.nT (c : cs) : Nat := c.2.2.2.1
def cs.nC (c : cs) : Nat := c.2.2.2.2.1
def cs.fI (c : cs) : Nat → Nat → Int32 := c.2.2.2.2.2.1
def cs.fL (c : cs) : Nat → Nat → Int64 := c.2.2.2.2.2.2.1
def cs.gI (c : cs) : Nat → Nat → Int32 := c.2.2.2.2.2.2.2.1
def cs.gL (c : cs) : Nat → Nat → Int64 := c.2.2.2.2.2.2.2.2.1
def cs.dl (c : cs) : Nat → Nat := c.2.2.2.2.2.2.2.2.2.1
def cs.df (c : cs) : Nat → Int64 := c.2.2.2.2.2.2.2.2.2.2.1
def cs.dm (c : cs) : Nat → Nat := c.2.2.2.2.2.2.2.2.2.2.2.1
def cs.dk (c : cs) : Nat → Nat → Nat → Int64 := c.2.2.2.2.2.2.2.2.2.2.2.2.1
def cs.so (c : cs) : Nat → Int32 := c.2.2.2.2.2.2.2.2.2.2.2.2.2.1
def cs.sh (c : cs) : Nat → Nat → Int64 := c.2.2.2.2.2.2.2.2.2.2.2.2.2.2.1
def cs.sv (c : cs) : Nat → Nat → Int64 := c.2.2.2.2.2.2.2.2.2.2.2.2.2.2.2
def cs.mk (nd : Nat) (ns : Nat) (nb : Nat) (nT : Nat) (nC : Nat) (fI : Nat → Nat → Int32) (fL : Nat → Nat → Int64) (gI : Nat → Nat → Int32) (gL : Nat → Nat → Int64) (dl : Nat → Nat) (df : Nat → Int64) (dm : Nat → Nat) (dk : Nat → Nat → Nat → Int64) (so : Nat → Int32) (sh : Nat → Nat → Int64) (sv : Nat → Nat → Int64) : cs := (nd, ns, nb, nT, nC, fI, fL, gI, gL, dl, df, dm, dk, so, sh, sv)
def cs.z (c : cs) (z : Nat) (o : Int32) (h v : Nat → Int64) : cs := cs.mk c.nd c.ns c.nb c.nT c.nC c.fI c.fL c.gI c.gL c.dl c.df c.dm c.dk (va_up c.so z o) (va_up c.sh z h) (va_up c.sv z v)
def cs.d (c : cs) (d : Nat) (l : Nat) (f : Int64) (m : Nat) (k : Nat → Nat → Int64) : cs := cs.mk c.nd c.ns c.nb c.nT c.nC c.fI c.fL c.gI c.gL (va_up c.dl d l) (va_up c.df d f) (va_up c.dm d m) (va_up c.dk d k) c.so c.sh c.sv
def cs.b (c : cs) (n : Nat) : cs := cs.mk c.nd c.ns n c.nT c.nC c.fI c.fL c.gI c.gL c.dl c.df c.dm c.dk c.so c.sh c.sv
def cs.t (c : cs) (p : tl_S) : cs := cs.mk c.nd c.ns c.nb (p.1) c.nC (p.2.1) (p.2.2) c.gI c.gL c.dl c.df c.dm c.dk c.so c.sh c.sv
def cs.co (c : cs) (p : tl_S) : cs := cs.mk c.nd c.ns c.nb c.nT (p.1) c.fI c.fL (p.2.1) (p.2.2) c.dl c.df c.dm c.dk c.so c.sh c.sv
def cs.mored (c : cs) (n : Nat) : cs := cs.mk n c.ns c.nb c.nT c.nC c.fI c.fL c.gI c.gL c.dl c.df c.dm c.dk c.so c.sh c.sv
def cs.mores (c : cs) (n : Nat) : cs := cs.mk c.nd n c.nb c.nT c.nC c.fI c.fL c.gI c.gL c.dl c.df c.dm c.dk c.so c.sh c.sv
def rd_ok (l : Nat) (f : Int64) (m : Nat) (k : Nat → Nat → Int64) (mI : Nat → Nat → Int32) (mL : Nat → Nat → Int64) (d : Nat) : Prop :=
  mI 0 d = nI l ∧
  l ≤ 99 ∧
  mL 1 d = f ∧
  0 ≤ f ∧
  mI 15 d = nI m ∧
  m ≤ 10 ∧
  (∀ i, i < m → k 0 i = (mI 16 (10 * d + i)).toInt64) ∧
  (∀ i, i < m → k 1 i = (mI 17 (10 * d + i)).toInt64) ∧
  (∀ i, i < m → ok_num (k 0 i) = true) ∧
  (∀ i, i < m → ok_num (k 1 i) = true) ∧
  (∀ i, i + 1 < m → k 0 i < k 0 (i + 1)) ∧
  (∀ i, i + 1 < m → k 1 i ≤ k 1 (i + 1))
theorem rd_ok.el {l : Nat} {f : Int64} {m : Nat} {k : Nat → Nat → Int64} {mI : Nat → Nat → Int32} {mL : Nat → Nat → Int64} {d : Nat} (q9 : rd_ok l f m k mI mL d) : mI 0 d = nI l := q9.1
theorem rd_ok.lb {l : Nat} {f : Int64} {m : Nat} {k : Nat → Nat → Int64} {mI : Nat → Nat → Int32} {mL : Nat → Nat → Int64} {d : Nat} (q9 : rd_ok l f m k mI mL d) : l ≤ 99 := q9.2.1
theorem rd_ok.ef {l : Nat} {f : Int64} {m : Nat} {k : Nat → Nat → Int64} {mI : Nat → Nat → Int32} {mL : Nat → Nat → Int64} {d : Nat} (q9 : rd_ok l f m k mI mL d) : mL 1 d = f := q9.2.2.1
theorem rd_ok.fb {l : Nat} {f : Int64} {m : Nat} {k : Nat → Nat → Int64} {mI : Nat → Nat → Int32} {mL : Nat → Nat → Int64} {d : Nat} (q9 : rd_ok l f m k mI mL d) : 0 ≤ f := q9.2.2.2.1
theorem rd_ok.em {l : Nat} {f : Int64} {m : Nat} {k : Nat → Nat → Int64} {mI : Nat → Nat → Int32} {mL : Nat → Nat → Int64} {d : Nat} (q9 : rd_ok l f m k mI mL d) : mI 15 d = nI m := q9.2.2.2.2.1
theorem rd_ok.mb {l : Nat} {f : Int64} {m : Nat} {k : Nat → Nat → Int64} {mI : Nat → Nat → Int32} {mL : Nat → Nat → Int64} {d : Nat} (q9 : rd_ok l f m k mI mL d) : m ≤ 10 := q9.2.2.2.2.2.1
theorem rd_ok.k0 {l : Nat} {f : Int64} {m : Nat} {k : Nat → Nat → Int64} {mI : Nat → Nat → Int32} {mL : Nat → Nat → Int64} {d : Nat} (q9 : rd_ok l f m k mI mL d) : ∀ i, i < m → k 0 i = (mI 16 (10 * d + i)).toInt64 := q9.2.2.2.2.2.2.1
theorem rd_ok.k1 {l : Nat} {f : Int64} {m : Nat} {k : Nat → Nat → Int64} {mI : Nat → Nat → Int32} {mL : Nat → Nat → Int64} {d : Nat} (q9 : rd_ok l f m k mI mL d) : ∀ i, i < m → k 1 i = (mI 17 (10 * d + i)).toInt64 := q9.2.2.2.2.2.2.2.1
theorem rd_ok.r0 {l : Nat} {f : Int64} {m : Nat} {k : Nat → Nat → Int64} {mI : Nat → Nat → Int32} {mL : Nat → Nat → Int64} {d : Nat} (q9 : rd_ok l f m k mI mL d) : ∀ i, i < m → ok_num (k 0 i) = true := q9.2.2.2.2.2.2.2.2.1
theorem rd_ok.r1 {l : Nat} {f : Int64} {m : Nat} {k : Nat → Nat → Int64} {mI : Nat → Nat → Int32} {mL : Nat → Nat → Int64} {d : Nat} (q9 : rd_ok l f m k mI mL d) : ∀ i, i < m → ok_num (k 1 i) = true := q9.2.2.2.2.2.2.2.2.2.1
theorem rd_ok.u0 {l : Nat} {f : Int64} {m : Nat} {k : Nat → Nat → Int64} {mI : Nat → Nat → Int32} {mL : Nat → Nat → Int64} {d : Nat} (q9 : rd_ok l f m k mI mL d) : ∀ i, i + 1 < m → k 0 i < k 0 (i + 1) := q9.2.2.2.2.2.2.2.2.2.2.1
theorem rd_ok.u1 {l : Nat} {f : Int64} {m : Nat} {k : Nat → Nat → Int64} {mI : Nat → Nat → Int32} {mL : Nat → Nat → Int64} {d : Nat} (q9 : rd_ok l f m k mI mL d) : ∀ i, i + 1 < m → k 1 i ≤ k 1 (i + 1) := q9.2.2.2.2.2.2.2.2.2.2.2
def rc_ok (gI : Nat → Nat → Int32) (gL : Nat → Nat → Int64) (mL : Nat → Nat → Int64) (i : Nat) : Prop :=
  mL 9 (5 * i) = (gI 0 i).toInt64 ∧
  mL 9 (5 * i + 1) = (gI 1 i).toInt64 ∧
  mL 9 (5 * i + 2) = gL 0 i ∧
  mL 9 (5 * i + 3) = gL 1 i ∧
  mL 9 (5 * i + 4) = gL 2 i
theorem rc_ok.c0 {gI : Nat → Nat → Int32} {gL : Nat → Nat → Int64} {mL : Nat → Nat → Int64} {i : Nat} (q9 : rc_ok gI gL mL i) : mL 9 (5 * i) = (gI 0 i).toInt64 := q9.1
theorem rc_ok.c1 {gI : Nat → Nat → Int32} {gL : Nat → Nat → Int64} {mL : Nat → Nat → Int64} {i : Nat} (q9 : rc_ok gI gL mL i) : mL 9 (5 * i + 1) = (gI 1 i).toInt64 := q9.2.1
theorem rc_ok.c2 {gI : Nat → Nat → Int32} {gL : Nat → Nat → Int64} {mL : Nat → Nat → Int64} {i : Nat} (q9 : rc_ok gI gL mL i) : mL 9 (5 * i + 2) = gL 0 i := q9.2.2.1
theorem rc_ok.c3 {gI : Nat → Nat → Int32} {gL : Nat → Nat → Int64} {mL : Nat → Nat → Int64} {i : Nat} (q9 : rc_ok gI gL mL i) : mL 9 (5 * i + 3) = gL 1 i := q9.2.2.2.1
theorem rc_ok.c4 {gI : Nat → Nat → Int32} {gL : Nat → Nat → Int64} {mL : Nat → Nat → Int64} {i : Nat} (q9 : rc_ok gI gL mL i) : mL 9 (5 * i + 4) = gL 2 i := q9.2.2.2.2
def rs_ok (o : Int32) (h : Nat → Int64) (v : Nat → Int64) (mI : Nat → Nat → Int32) (mL : Nat → Nat → Int64) (mZ : Nat → Nat → Bool) (j : Nat) : Prop :=
  hr h mL mZ j ∧
  mI 14 j = o ∧
  ((o = -1 ∧ ∀ k, k < 4 → v k = 0) ∨ (0 ≤ o ∧ hr v mL mZ (6 + j)))
theorem rs_ok.eh {o : Int32} {h : Nat → Int64} {v : Nat → Int64} {mI : Nat → Nat → Int32} {mL : Nat → Nat → Int64} {mZ : Nat → Nat → Bool} {j : Nat} (q9 : rs_ok o h v mI mL mZ j) : hr h mL mZ j := q9.1
theorem rs_ok.eo {o : Int32} {h : Nat → Int64} {v : Nat → Int64} {mI : Nat → Nat → Int32} {mL : Nat → Nat → Int64} {mZ : Nat → Nat → Bool} {j : Nat} (q9 : rs_ok o h v mI mL mZ j) : mI 14 j = o := q9.2.1
theorem rs_ok.ew {o : Int32} {h : Nat → Int64} {v : Nat → Int64} {mI : Nat → Nat → Int32} {mL : Nat → Nat → Int64} {mZ : Nat → Nat → Bool} {j : Nat} (q9 : rs_ok o h v mI mL mZ j) : (o = -1 ∧ ∀ k, k < 4 → v k = 0) ∨ (0 ≤ o ∧ hr v mL mZ (6 + j)) := q9.2.2
def rz_ok (mI : Nat → Nat → Int32) (mL : Nat → Nat → Int64) (mZ : Nat → Nat → Bool) (j : Nat) : Prop :=
  (∀ i, i < 60 → mZ 10 (60 * j + i) = false) ∧
  (∀ i, i < 60 → mZ 11 (60 * j + i) = false) ∧
  (∀ i, i < 20 → mZ 12 (20 * j + i) = false) ∧
  mL 13 j = 0 ∧
  mI 14 j = -1
theorem rz_ok.t {mI : Nat → Nat → Int32} {mL : Nat → Nat → Int64} {mZ : Nat → Nat → Bool} {j : Nat} (q9 : rz_ok mI mL mZ j) : ∀ i, i < 60 → mZ 10 (60 * j + i) = false := q9.1
theorem rz_ok.ch {mI : Nat → Nat → Int32} {mL : Nat → Nat → Int64} {mZ : Nat → Nat → Bool} {j : Nat} (q9 : rz_ok mI mL mZ j) : ∀ i, i < 60 → mZ 11 (60 * j + i) = false := q9.2.1
theorem rz_ok.c {mI : Nat → Nat → Int32} {mL : Nat → Nat → Int64} {mZ : Nat → Nat → Bool} {j : Nat} (q9 : rz_ok mI mL mZ j) : ∀ i, i < 20 → mZ 12 (20 * j + i) = false := q9.2.2.1
theorem rz_ok.b {mI : Nat → Nat → Int32} {mL : Nat → Nat → Int64} {mZ : Nat → Nat → Bool} {j : Nat} (q9 : rz_ok mI mL mZ j) : mL 13 j = 0 := q9.2.2.2.1
theorem rz_ok.o {mI : Nat → Nat → Int32} {mL : Nat → Nat → Int64} {mZ : Nat → Nat → Bool} {j : Nat} (q9 : rz_ok mI mL mZ j) : mI 14 j = -1 := q9.2.2.2.2
def Rel (c : cs) (sc : Nat → Nat) (mI : Nat → Nat → Int32) (mL : Nat → Nat → Int64) (mZ : Nat → Nat → Bool) : Prop :=
  sc 0 = c.nd ∧
  sc 1 = c.nT ∧
  sc 2 = c.nC ∧
  sc 3 = c.ns ∧
  sc 4 = c.nb ∧
  c.nd ≤ 4 ∧
  c.nT ≤ 60 ∧
  c.nC ≤ 20 ∧
  c.ns ≤ 6 ∧
  (∀ d, d < c.nd → rd_ok (c.dl d) (c.df d) (c.dm d) (c.dk d) mI mL d) ∧
  (∀ d, c.nd ≤ d → d < 4 → mI 0 d = 0 ∧ mL 1 d = 0 ∧ mI 15 d = 0) ∧
  (∀ i, i < c.nT → tr_ok c.fI c.fL mI mL i) ∧
  (∀ i, i < c.nT → 0 ≤ c.fI 1 i ∧ 0 ≤ c.fI 2 i) ∧
  tr_un c.fI c.fL c.nT ∧
  (∀ i, i < c.nC → rc_ok c.gI c.gL mL i) ∧
  (∀ j, j < c.ns → rs_ok (c.so j) (c.sh j) (c.sv j) mI mL mZ j) ∧
  (∀ j, c.ns ≤ j → j < 6 → rz_ok mI mL mZ j)
theorem Rel.s0 {c : cs} {sc : Nat → Nat} {mI : Nat → Nat → Int32} {mL : Nat → Nat → Int64} {mZ : Nat → Nat → Bool} (q9 : Rel c sc mI mL mZ) : sc 0 = c.nd := q9.1
theorem Rel.s1 {c : cs} {sc : Nat → Nat} {mI : Nat → Nat → Int32} {mL : Nat → Nat → Int64} {mZ : Nat → Nat → Bool} (q9 : Rel c sc mI mL mZ) : sc 1 = c.nT := q9.2.1
theorem Rel.s2 {c : cs} {sc : Nat → Nat} {mI : Nat → Nat → Int32} {mL : Nat → Nat → Int64} {mZ : Nat → Nat → Bool} (q9 : Rel c sc mI mL mZ) : sc 2 = c.nC := q9.2.2.1
theorem Rel.s3 {c : cs} {sc : Nat → Nat} {mI : Nat → Nat → Int32} {mL : Nat → Nat → Int64} {mZ : Nat → Nat → Bool} (q9 : Rel c sc mI mL mZ) : sc 3 = c.ns := q9.2.2.2.1
theorem Rel.s4 {c : cs} {sc : Nat → Nat} {mI : Nat → Nat → Int32} {mL : Nat → Nat → Int64} {mZ : Nat → Nat → Bool} (q9 : Rel c sc mI mL mZ) : sc 4 = c.nb := q9.2.2.2.2.1
theorem Rel.b0 {c : cs} {sc : Nat → Nat} {mI : Nat → Nat → Int32} {mL : Nat → Nat → Int64} {mZ : Nat → Nat → Bool} (q9 : Rel c sc mI mL mZ) : c.nd ≤ 4 := q9.2.2.2.2.2.1
theorem Rel.b1 {c : cs} {sc : Nat → Nat} {mI : Nat → Nat → Int32} {mL : Nat → Nat → Int64} {mZ : Nat → Nat → Bool} (q9 : Rel c sc mI mL mZ) : c.nT ≤ 60 := q9.2.2.2.2.2.2.1
theorem Rel.b2 {c : cs} {sc : Nat → Nat} {mI : Nat → Nat → Int32} {mL : Nat → Nat → Int64} {mZ : Nat → Nat → Bool} (q9 : Rel c sc mI mL mZ) : c.nC ≤ 20 := q9.2.2.2.2.2.2.2.1
theorem Rel.b3 {c : cs} {sc : Nat → Nat} {mI : Nat → Nat → Int32} {mL : Nat → Nat → Int64} {mZ : Nat → Nat → Bool} (q9 : Rel c sc mI mL mZ) : c.ns ≤ 6 := q9.2.2.2.2.2.2.2.2.1
theorem Rel.dv {c : cs} {sc : Nat → Nat} {mI : Nat → Nat → Int32} {mL : Nat → Nat → Int64} {mZ : Nat → Nat → Bool} (q9 : Rel c sc mI mL mZ) : ∀ d, d < c.nd → rd_ok (c.dl d) (c.df d) (c.dm d) (c.dk d) mI mL d := q9.2.2.2.2.2.2.2.2.2.1
theorem Rel.d0 {c : cs} {sc : Nat → Nat} {mI : Nat → Nat → Int32} {mL : Nat → Nat → Int64} {mZ : Nat → Nat → Bool} (q9 : Rel c sc mI mL mZ) : ∀ d, c.nd ≤ d → d < 4 → mI 0 d = 0 ∧ mL 1 d = 0 ∧ mI 15 d = 0 := q9.2.2.2.2.2.2.2.2.2.2.1
theorem Rel.tl {c : cs} {sc : Nat → Nat} {mI : Nat → Nat → Int32} {mL : Nat → Nat → Int64} {mZ : Nat → Nat → Bool} (q9 : Rel c sc mI mL mZ) : ∀ i, i < c.nT → tr_ok c.fI c.fL mI mL i := q9.2.2.2.2.2.2.2.2.2.2.2.1
theorem Rel.tb {c : cs} {sc : Nat → Nat} {mI : Nat → Nat → Int32} {mL : Nat → Nat → Int64} {mZ : Nat → Nat → Bool} (q9 : Rel c sc mI mL mZ) : ∀ i, i < c.nT → 0 ≤ c.fI 1 i ∧ 0 ≤ c.fI 2 i := q9.2.2.2.2.2.2.2.2.2.2.2.2.1
theorem Rel.tu {c : cs} {sc : Nat → Nat} {mI : Nat → Nat → Int32} {mL : Nat → Nat → Int64} {mZ : Nat → Nat → Bool} (q9 : Rel c sc mI mL mZ) : tr_un c.fI c.fL c.nT := q9.2.2.2.2.2.2.2.2.2.2.2.2.2.1
theorem Rel.co {c : cs} {sc : Nat → Nat} {mI : Nat → Nat → Int32} {mL : Nat → Nat → Int64} {mZ : Nat → Nat → Bool} (q9 : Rel c sc mI mL mZ) : ∀ i, i < c.nC → rc_ok c.gI c.gL mL i := q9.2.2.2.2.2.2.2.2.2.2.2.2.2.2.1
theorem Rel.st {c : cs} {sc : Nat → Nat} {mI : Nat → Nat → Int32} {mL : Nat → Nat → Int64} {mZ : Nat → Nat → Bool} (q9 : Rel c sc mI mL mZ) : ∀ j, j < c.ns → rs_ok (c.so j) (c.sh j) (c.sv j) mI mL mZ j := q9.2.2.2.2.2.2.2.2.2.2.2.2.2.2.2.1
theorem Rel.z0 {c : cs} {sc : Nat → Nat} {mI : Nat → Nat → Int32} {mL : Nat → Nat → Int64} {mZ : Nat → Nat → Bool} (q9 : Rel c sc mI mL mZ) : ∀ j, c.ns ≤ j → j < 6 → rz_ok mI mL mZ j := q9.2.2.2.2.2.2.2.2.2.2.2.2.2.2.2.2
theorem nn_fm_no {p : Nat → Bool} {lt : Nat → Nat → Bool} {n : Nat} (h : ∀ i, i < n → p i = false) : nn_fm p lt n = none := by
  cases q : nn_fm p lt n with
  | none => rfl
  | some i => have := h i (nn_fm_lt q); rw [nn_fm_p q] at this; cases this
section RL
variable {fI : Nat → Nat → Int32} {fL : Nat → Nat → Int64} {mI : Nat → Nat → Int32} {mL : Nat → Nat → Int64} {mZ : Nat → Nat → Bool} {n r : Nat} {h : Nat → Int64}
theorem rl_ord (ht : ∀ i, i < n → tr_ok fI fL mI mL i) {i j : Nat} (hi : i < n) (hj : j < n) (h2 : mI 2 i = mI 2 j) (h5 : mI 5 i = mI 5 j) (hs : mo_sk mI i j = false) : tl_bf fI fL j i = if ¬ mI 3 i = mI 3 j then decide (mI 3 j < mI 3 i) else decide (mI 4 j < mI 4 i) := by
  obtain ⟨a0, a1, a2, a3, _⟩ := ht i hi
  obtain ⟨b0, b1, b2, b3, _⟩ := ht j hj
  simp only [tl_bf, a0, a1, a2, a3, b0, b1, b2, b3, h2, not_true, if_false]
  by_cases e : mI 3 i = mI 3 j
  · have e4 : ¬ mI 4 i = mI 4 j := fun q => by simp [mo_sk, h2, h5, e, q] at hs
    have e4' : ¬ mI 4 j = mI 4 i := fun q => e4 q.symm
    simp [e, e4']
  · have e' : ¬ mI 3 j = mI 3 i := fun q => e q.symm
    simp [e, e']
theorem rl_kb (ht : ∀ i, i < n → tr_ok fI fL mI mL i) {i j : Nat} (hi : i < n) (hj : j < n) (hs : mo_sk mI i j = false) : tl_bf fI fL i j = mo_kb mI i j := by
  obtain ⟨a0, a1, a2, a3, _⟩ := ht i hi
  obtain ⟨b0, b1, b2, b3, _⟩ := ht j hj
  simp only [tl_bf, mo_kb, a0, a1, a2, a3, b0, b1, b2, b3]
  by_cases e2 : mI 2 i = mI 2 j
  · by_cases e3 : mI 3 i = mI 3 j
    · by_cases e4 : mI 4 i = mI 4 j
      · have e5 : ¬ mI 5 i = mI 5 j := fun q => by simp [mo_sk, e2, e3, e4, q] at hs
        simp [e2, e3, e4, e5]
      · simp [e2, e3, e4]
    · simp [e2, e3]
  · simp [e2]
theorem rl_cfu (ht : ∀ i, i < n → tr_ok fI fL mI mL i) {i j : Nat} (hi : i < n) (hj : j < n) (hne : i ≠ j) (ci : mo_cf mI mL mZ n r i = true) (cj : mo_cf mI mL mZ n r j = true) : mo_sk mI i j = false := by
  cases hk : mo_sk mI i j with
  | false => rfl
  | true =>
    exfalso
    have hkc : mo_sk mI j i = true := by rw [← rl_sk ht hj hi, tl_sk_c, rl_sk ht hi hj]; exact hk
    simp only [mo_cf, Bool.and_eq_true, Bool.not_eq_true', nn_any_no] at ci cj
    rcases Nat.lt_or_gt_of_ne hne with q | q
    · have := cj.2.1 i hi
      simp [mo_ce, mo_so, q, hkc, ci.1, hne] at this
    · have := ci.2.1 j hj
      simp [mo_ce, mo_so, q, hk, cj.1, Ne.symm hne] at this
theorem mo_kb_irr (i : Nat) : mo_kb mI i i = false := by simp [mo_kb, Int32.lt_iff_toInt_lt]
end RL
section AN
variable {c : cs} {sc : Nat → Nat} {mI : Nat → Nat → Int32} {mL : Nat → Nat → Int64} {mZ : Nat → Nat → Bool}
theorem mo_ok_z {m z : Nat} (hz : z < m) (hm : m < 2 ^ 31) : mo_ok m (nI z) = true := by
  simp [mo_ok, nI_pos' (show z < 2 ^ 31 by omega), nI_lt hz hm]
theorem e_life (R : Rel c sc mI mL mZ) (d : Int32) : xm_life c.nd c.dl d = mo_life sc mI d := by
  have b0 := R.b0
  rw [xm_life, mo_life, R.s0]
  by_cases q : mo_ok c.nd d = true
  · obtain ⟨z, hz, rfl⟩ := mo_ix (by omega) q
    rw [if_pos q, if_pos q, nI_clamp (by omega), (R.dv z hz).el]
  · rw [if_neg q, if_neg q]
theorem e_last (R : Rel c sc mI mL mZ) (d dv kd : Int32) : xm_last c.ns c.nT c.fI c.fL c.sh d dv kd = mo_last sc mI mL mZ d dv kd := by
  have b3 := R.b3
  have b1 := R.b1
  rw [xm_last, mo_last, R.s1]
  by_cases q : mo_ok c.ns d = true
  · obtain ⟨z, hz, rfl⟩ := mo_ix (by omega) q
    rw [if_pos q, nI_clamp (by omega), rl_seen R.b1 R.tl R.tu (R.st z hz).eh, tl_ln]
    have e : nn_fm (bs_in (bs_m (rl_sp mI mL mZ c.nT z dv kd) c.nT)) (tl_fb c.fI c.fL) c.nT = nn_fm (mo_lp sc mI mL mZ (nI z) dv kd) (mo_ll mI) c.nT := by
      have P : ∀ i, mo_lp sc mI mL mZ (nI z) dv kd i = rl_sp mI mL mZ c.nT z dv kd i := fun i => by
        rw [mo_lp, rl_sp, R.s3, R.s1, q, nI_clamp (by omega)]; rfl
      refine nn_fm_ext (fun i hi => ?_) (fun i j hi hj pi pj => ?_)
      · rw [bs_in_m (by omega) (by omega), P i]; simp [hi]
      · rw [P] at pi pj
        simp only [rl_sp, Bool.and_eq_true, decide_eq_true_eq] at pi pj
        by_cases e : i = j
        · subst e; rw [tl_fb, tl_bf_irr]; simp [mo_ll, Int32.lt_iff_toInt_lt]
        · rw [tl_fb, rl_ord R.tl hi hj (by rw [pi.1, pj.1]) (by rw [pi.2.1, pj.2.1]) (rl_uni R.tl R.tu hi hj e pi.2.2 pj.2.2), mo_ll]
          by_cases e3 : mI 3 i = mI 3 j
          · simp [e3, Int32.lt_iff_toInt_lt]
          · simp [e3]
    rw [e]
    cases hf : nn_fm (mo_lp sc mI mL mZ (nI z) dv kd) (mo_ll mI) c.nT with
    | none => rfl
    | some j =>
      obtain ⟨_, _, _, _, _, a5, _⟩ := R.tl j (nn_fm_lt hf)
      simp only [xm_vo, mo_vo, a5]
  · rw [if_neg q, nn_fm_no]
    · rfl
    · intro i hi
      rw [mo_lp, R.s3, Bool.eq_false_iff.mpr q]; rfl
theorem e_kept (R : Rel c sc mI mL mZ) (d kd : Int32) : xm_kept c.ns c.nT c.fI c.fL c.sh d kd = mo_kept sc mI mL mZ d kd := by
  have b3 := R.b3
  have b1 := R.b1
  rw [xm_kept, mo_kept, R.s1]
  by_cases q : mo_ok c.ns d = true
  · obtain ⟨z, hz, rfl⟩ := mo_ix (by omega) q
    have hh := (R.st z hz).eh
    rw [if_pos q, nI_clamp (by omega), tl_sum]
    refine nn_sm_ext (fun i hi => ?_) (fun i hi _ => ?_)
    · obtain ⟨_, _, _, a3, _⟩ := R.tl i hi
      rw [tl_pW, mo_kq, R.s3, q, nI_clamp (by omega), bs_in_and (by omega), bs_in_not (by omega), rl_live R.b1 R.tl hh hi, hh.t i (by omega), a3]
      simp only [show i < 60 by omega, decide_true, Bool.true_and]
      rw [Bool.and_comm]
    · obtain ⟨_, _, _, _, _, a5, _⟩ := R.tl i hi
      exact a5
  · rw [if_neg q]
    have : ∀ m, m ≤ c.nT → nn_sm (mo_kq sc mI mL mZ d kd) (mL 7) m = 0 := by
      intro m
      induction m with
      | zero => intro _; rfl
      | succ m ih =>
        intro hm
        rw [nn_sm, if_neg (by rw [mo_kq, R.s3, Bool.eq_false_iff.mpr q]; simp), ih (by omega)]
    exact (this c.nT (Nat.le_refl _)).symm
theorem e_conflict (R : Rel c sc mI mL mZ) (d pk wt : Int32) : xm_conflict c.ns c.nT c.fI c.fL c.sh d pk wt = mo_conf sc mI mL mZ d pk wt := by
  have b3 := R.b3
  have b1 := R.b1
  rw [xm_conflict, mo_conf, R.s1]
  by_cases q : mo_ok c.ns d = true
  · obtain ⟨z, hz, rfl⟩ := mo_ix (by omega) q
    have hh := (R.st z hz).eh
    rw [if_pos q, nI_clamp (by omega), rl_conf R.b1 R.tl hh, tl_ip]
    have B : ∀ i, i < c.nT → bs_in (bs_m (mo_cf mI mL mZ c.nT z) c.nT) i = mo_cf mI mL mZ c.nT z i := fun i hi => by rw [bs_in_m (by omega) (by omega)]; simp [hi]
    have e : nn_ff (tl_pI c.fI c.fL c.nT (bs_m (mo_cf mI mL mZ c.nT z) c.nT) pk) c.nT = nn_ff (mo_xp sc mI mL mZ (nI z) pk) c.nT := by
      refine nn_ff_ext (fun i hi => ?_)
      rw [tl_pI, mo_xp, R.s3, R.s1, q, nI_clamp (by omega), B i hi, Bool.true_and]
      cases hc : mo_cf mI mL mZ c.nT z i with
      | false => rfl
      | true =>
        have : tl_cb c.fI c.fL c.nT i (bs_m (mo_cf mI mL mZ c.nT z) c.nT) = nn_ct (mo_xb mI mL mZ c.nT z i) c.nT := by
          rw [tl_cb]
          refine nn_ct_ext (fun j hj => ?_)
          rw [tl_pC, mo_xb, B j hj]
          cases hcj : mo_cf mI mL mZ c.nT z j with
          | false => rfl
          | true =>
            by_cases e : j = i
            · subst e; rw [tl_bf_irr, mo_kb_irr]
            · rw [rl_kb R.tl hj hi (rl_cfu R.tl hj hi e hcj hc)]
        rw [this]
    rw [e]
    cases hf : nn_ff (mo_xp sc mI mL mZ (nI z) pk) c.nT with
    | none => rfl
    | some j =>
      obtain ⟨a0, a1, a2, a3, _⟩ := R.tl j (nn_ff_lt hf).1
      simp only [mo_part2, mo_part, tl_part, a0, a1, a2, a3]
  · rw [if_neg q, nn_ff_no]
    · rfl
    · intro i hi
      rw [mo_xp, R.s3, Bool.eq_false_iff.mpr q]; rfl
theorem eq_1_i {z y : Nat} (k : Nat) : eq_1 mL mZ z y k = true ↔ (mL 13 z = mL 13 y ∧ ∀ i, i < k → mZ 10 (60 * z + i) = mZ 10 (60 * y + i) ∧ mZ 11 (60 * z + i) = mZ 11 (60 * y + i)) := by
  induction k with
  | zero => simp [eq_1]
  | succ k ih =>
    simp only [eq_1, Bool.and_eq_true, decide_eq_true_eq, ih]
    constructor
    · rintro ⟨⟨h1, h2⟩, h3⟩
      exact ⟨h1, fun i hi => by by_cases e : i = k; (subst e; exact h3); exact h2 i (by omega)⟩
    · rintro ⟨h1, h2⟩
      exact ⟨⟨h1, fun i hi => h2 i (by omega)⟩, h2 k (by omega)⟩
theorem eq_2_i {z y : Nat} (k : Nat) : eq_2 mL mZ z y k = true ↔ (eq_1 mL mZ z y 60 = true ∧ ∀ i, i < k → mZ 12 (20 * z + i) = mZ 12 (20 * y + i)) := by
  induction k with
  | zero => simp [eq_2]
  | succ k ih =>
    simp only [eq_2, Bool.and_eq_true, decide_eq_true_eq, ih]
    constructor
    · rintro ⟨⟨h1, h2⟩, h3⟩
      exact ⟨h1, fun i hi => by by_cases e : i = k; (subst e; exact h3); exact h2 i (by omega)⟩
    · rintro ⟨h1, h2⟩
      exact ⟨⟨h1, fun i hi => h2 i (by omega)⟩, h2 k (by omega)⟩
theorem rl_like {f g : Nat → Int64} {z y : Nat} (hf : hr f mL mZ z) (hg : hr g mL mZ y) : he_like f g = eq_2 mL mZ z y 20 := by
  rw [Bool.eq_iff_iff, eq_2_i, eq_1_i]
  simp only [he_like, Bool.and_eq_true, decide_eq_true_eq]
  constructor
  · rintro ⟨h0, h1, h2, h3⟩
    refine ⟨⟨by rw [← hf.b, ← hg.b, h3], fun i hi => ⟨?_, ?_⟩⟩, fun i hi => ?_⟩
    · have a := hf.t i (by omega); rw [h0, hg.t i (by omega)] at a; simpa [hi] using a.symm
    · have a := hf.ch i (by omega); rw [h2, hg.ch i (by omega)] at a; simpa [hi] using a.symm
    · have a := hf.c i (by omega); rw [h1, hg.c i (by omega)] at a; simpa [hi] using a.symm
  · rintro ⟨⟨h3, h02⟩, h1⟩
    refine ⟨bs_ext fun i hi => ?_, bs_ext fun i hi => ?_, bs_ext fun i hi => ?_, by rw [hf.b, hg.b, h3]⟩
    · rw [hf.t i hi, hg.t i hi]
      by_cases q : i < 60
      · rw [(h02 i q).1]
      · simp [q]
    · rw [hf.c i hi, hg.c i hi]
      by_cases q : i < 20
      · rw [h1 i q]
      · simp [q]
    · rw [hf.ch i hi, hg.ch i hi]
      by_cases q : i < 60
      · rw [(h02 i q).2]
      · simp [q]
theorem e_equal (R : Rel c sc mI mL mZ) (d dv : Int32) : xm_equal c.ns c.sh d dv = mo_equal sc mL mZ d dv := by
  have b3 := R.b3
  rw [xm_equal, mo_equal, R.s3]
  cases q : mo_ok c.ns d with
  | false => rfl
  | true =>
    cases q2 : mo_ok c.ns dv with
    | false => rfl
    | true =>
      obtain ⟨z, hz, rfl⟩ := mo_ix (by omega) q
      obtain ⟨y, hy, rfl⟩ := mo_ix (by omega) q2
      rw [nI_clamp (by omega), nI_clamp (by omega), rl_like (R.st z hz).eh (R.st y hy).eh]
theorem e_known (R : Rel c sc mI mL mZ) (d dv kd : Int32) (se wh : Int64) : xm_known c.ns c.nT c.nC c.fI c.fL c.gI c.gL c.sh d dv kd se wh = mo_known sc mI mL mZ d dv kd se wh := by
  have b3 := R.b3
  have b1 := R.b1
  have b2 := R.b2
  rw [xm_known, mo_known, R.s1]
  by_cases q : mo_ok c.ns d = true
  · obtain ⟨z, hz, rfl⟩ := mo_ix (by omega) q
    have hh := (R.st z hz).eh
    rw [if_pos q, nI_clamp (by omega), rl_seen R.b1 R.tl R.tu hh, tl_lk]
    have e : nn_fm (tl_pL c.fL (bs_m (rl_sp mI mL mZ c.nT z dv kd) c.nT) se wh) (tl_lt c.fI c.fL) c.nT = nn_fm (mo_kp sc mI mL mZ (nI z) dv kd se wh) (mo_lt mI) c.nT := by
      have P : ∀ i, mo_kp sc mI mL mZ (nI z) dv kd se wh i = (decide (mI 2 i = dv) && (decide (mI 5 i = kd) && (decide ((mI 6 i).toInt64 ≤ se) && (decide ((mI 8 i).toInt64 ≤ wh) && mo_se mI mL mZ c.nT z i)))) := fun i => by
        rw [mo_kp, R.s3, R.s1, q, nI_clamp (by omega)]; rfl
      refine nn_fm_ext (fun i hi => ?_) (fun i j hi hj pi pj => ?_)
      · obtain ⟨_, _, _, _, a4, _, a6⟩ := R.tl i hi
        rw [tl_pL, bs_in_m (by omega) (by omega), P i, a4, a6, rl_sp]
        simp only [hi, decide_true, Bool.true_and]
        cases decide (mI 2 i = dv) <;> cases decide (mI 5 i = kd) <;> cases mo_se mI mL mZ c.nT z i <;> simp
      · rw [P] at pi pj
        simp only [Bool.and_eq_true, decide_eq_true_eq] at pi pj
        obtain ⟨_, _, _, _, a4, _, _⟩ := R.tl i hi
        obtain ⟨_, _, _, _, b4, _, _⟩ := R.tl j hj
        rw [tl_lt, mo_lt, a4, b4]
        by_cases e6 : mI 6 i = mI 6 j
        · rw [if_neg (by simp [e6]), if_neg (by simp [e6])]
          by_cases e : i = j
          · subst e; rw [tl_bf_irr]; simp [Int32.lt_iff_toInt_lt]
          · rw [rl_ord R.tl hi hj (by rw [pi.1, pj.1]) (by rw [pi.2.1, pj.2.1]) (rl_uni R.tl R.tu hi hj e pi.2.2.2.2 pj.2.2.2.2)]
        · rw [if_pos (by rw [w_eq]; exact e6), if_pos e6]; simp only [w_lt]
    rw [e]
    cases hf : nn_fm (mo_kp sc mI mL mZ (nI z) dv kd se wh) (mo_lt mI) c.nT with
    | none => rfl
    | some j =>
      obtain ⟨_, _, _, _, a4, a5, _⟩ := R.tl j (nn_fm_lt hf)
      simp only [xm_kv, mo_kv]
      rw [R.s2, co_la, a4]
      have e2 : nn_fm (co_p c.gI c.gL (c.sh z 1) dv kd (mI 6 j).toInt64 wh) (co_st c.gL) c.nC = nn_fm (mo_fp mL mZ z dv kd (mI 6 j).toInt64 wh) (mo_fl mL) c.nC := by
        refine nn_fm_ext (fun i hi => ?_) (fun i k hi hk _ _ => ?_)
        · have o := R.co i hi
          rw [co_p, mo_fp, hh.c i (by omega), co_for, o.c0, o.c1, o.c2, o.c4]
          simp only [show i < 20 by omega, decide_true, Bool.true_and, w_eq, Bool.and_assoc]
        · have o := R.co i hi
          have o2 := R.co k hk
          rw [co_st, mo_fl, o.c3, o.c4, o2.c3, o2.c4]
          by_cases e : c.gL 2 i = c.gL 2 k
          · simp [e, Int64.lt_iff_toInt_lt]
          · simp [e]
      rw [e2]
      cases hg : nn_fm (mo_fp mL mZ z dv kd (mI 6 j).toInt64 wh) (mo_fl mL) c.nC with
      | none => simp only [xm_kw, mo_kw, a5]
      | some i => simp only [xm_kw, mo_kw, (R.co i (nn_fm_lt hg)).c3]
  · rw [if_neg q, nn_fm_no]
    · rfl
    · intro i hi
      rw [mo_kp, R.s3, Bool.eq_false_iff.mpr q]; rfl
end AN
