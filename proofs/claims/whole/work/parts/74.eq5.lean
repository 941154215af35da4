theorem va_up_s {α : Type} {f : Nat → α} {k : Nat} {x : α} : va_up f k x k = x := if_pos rfl
theorem va_up_n {α : Type} {f : Nat → α} {k j : Nat} {x : α} (h : j ≠ k) : va_up f k x j = f j := if_neg h
theorem va_up_id {α : Type} {f : Nat → α} {k : Nat} : va_up f k (f k) = f := by
  funext j
  by_cases h : j = k
  · subst h; exact va_up_s
  · exact va_up_n h
theorem hr.mono {h : Nat → Int64} {mL mL' : Nat → Nat → Int64} {mZ mZ' : Nat → Nat → Bool} {r : Nat} (q : hr h mL mZ r) (h0 : ∀ i, i < 60 → mZ' 10 (60 * r + i) = mZ 10 (60 * r + i)) (h1 : ∀ i, i < 60 → mZ' 11 (60 * r + i) = mZ 11 (60 * r + i)) (h2 : ∀ i, i < 20 → mZ' 12 (20 * r + i) = mZ 12 (20 * r + i)) (h3 : mL' 13 r = mL 13 r) : hr h mL' mZ' r := by
  refine ⟨fun i hi => ?_, fun i hi => ?_, fun i hi => ?_, by rw [q.b, h3]⟩
  · rw [q.t i hi]
    by_cases w : i < 60
    · rw [h0 i w]
    · simp [w]
  · rw [q.c i hi]
    by_cases w : i < 20
    · rw [h2 i w]
    · simp [w]
  · rw [q.ch i hi]
    by_cases w : i < 60
    · rw [h1 i w]
    · simp [w]
section WR
variable {c : cs} {sc : Nat → Nat} {mI mI' : Nat → Nat → Int32} {mL mL' : Nat → Nat → Int64} {mZ mZ' : Nat → Nat → Bool}
theorem tr_ok.mono {fI : Nat → Nat → Int32} {fL : Nat → Nat → Int64} {i : Nat} (q : tr_ok fI fL mI mL i) (h : ∀ k, k < 9 → mI' k i = mI k i) (h7 : mL' 7 i = mL 7 i) : tr_ok fI fL mI' mL' i := by
  obtain ⟨a0, a1, a2, a3, a4, a5, a6⟩ := q
  exact ⟨by rw [h 2 (by omega)]; exact a0, by rw [h 3 (by omega)]; exact a1, by rw [h 4 (by omega)]; exact a2, by rw [h 5 (by omega)]; exact a3, by rw [h 6 (by omega)]; exact a4, by rw [h7]; exact a5, by rw [h 8 (by omega)]; exact a6⟩
theorem rd_ok.mono {l : Nat} {f : Int64} {m : Nat} {k : Nat → Nat → Int64} {d : Nat} (q : rd_ok l f m k mI mL d) (h0 : mI' 0 d = mI 0 d) (h1 : mL' 1 d = mL 1 d) (h5 : mI' 15 d = mI 15 d) (h6 : ∀ i, i < 10 → mI' 16 (10 * d + i) = mI 16 (10 * d + i)) (h7 : ∀ i, i < 10 → mI' 17 (10 * d + i) = mI 17 (10 * d + i)) : rd_ok l f m k mI' mL' d := by
  have mb := q.mb
  exact ⟨by rw [h0, q.el], q.lb, by rw [h1, q.ef], q.fb, by rw [h5, q.em], q.mb, fun i hi => by rw [h6 i (by omega)]; exact q.k0 i hi, fun i hi => by rw [h7 i (by omega)]; exact q.k1 i hi, q.r0, q.r1, q.u0, q.u1⟩
theorem rc_ok.mono {gI : Nat → Nat → Int32} {gL : Nat → Nat → Int64} {i : Nat} (q : rc_ok gI gL mL i) (h : ∀ k, k < 5 → mL' 9 (5 * i + k) = mL 9 (5 * i + k)) : rc_ok gI gL mL' i :=
  ⟨by have := h 0 (by omega); rw [Nat.add_zero] at this; rw [this]; exact q.c0, by rw [h 1 (by omega)]; exact q.c1, by rw [h 2 (by omega)]; exact q.c2, by rw [h 3 (by omega)]; exact q.c3, by rw [h 4 (by omega)]; exact q.c4⟩
theorem rel_z (R : Rel c sc mI mL mZ) {z : Nat} (hz : z < c.ns) {o : Int32} {h v : Nat → Int64} (hI : ∀ k i, (k ≠ 14 ∨ i ≠ z) → mI' k i = mI k i) (hL : ∀ k i, (k ≠ 13 ∨ (i ≠ z ∧ i ≠ 6 + z)) → mL' k i = mL k i)
    (h0 : ∀ r i, r ≠ z → r ≠ 6 + z → i < 60 → mZ' 10 (60 * r + i) = mZ 10 (60 * r + i)) (h1 : ∀ r i, r ≠ z → r ≠ 6 + z → i < 60 → mZ' 11 (60 * r + i) = mZ 11 (60 * r + i)) (h2 : ∀ r i, r ≠ z → r ≠ 6 + z → i < 20 → mZ' 12 (20 * r + i) = mZ 12 (20 * r + i))
    (hs : rs_ok o h v mI' mL' mZ' z) : Rel (c.z z o h v) sc mI' mL' mZ' := by
  have b3 := R.b3
  refine ⟨R.s0, R.s1, R.s2, R.s3, R.s4, R.b0, R.b1, R.b2, R.b3, fun d hd => ?_, fun d hd hd4 => ?_, fun i hi => ?_, R.tb, R.tu, fun i hi => ?_, fun j hj => ?_, fun j hj hj6 => ?_⟩
  · exact (R.dv d hd).mono (hI _ _ (Or.inl (by omega))) (hL _ _ (Or.inl (by omega))) (hI _ _ (Or.inl (by omega))) (fun i _ => hI _ _ (Or.inl (by omega))) (fun i _ => hI _ _ (Or.inl (by omega)))
  · obtain ⟨a, b, e⟩ := R.d0 d hd hd4
    exact ⟨by rw [hI _ _ (Or.inl (by omega))]; exact a, by rw [hL _ _ (Or.inl (by omega))]; exact b, by rw [hI _ _ (Or.inl (by omega))]; exact e⟩
  · exact (R.tl i hi).mono (fun k hk => hI _ _ (Or.inl (by omega))) (hL _ _ (Or.inl (by omega)))
  · exact (R.co i hi).mono (fun k hk => hL _ _ (Or.inl (by omega)))
  · show rs_ok (va_up c.so z o j) (va_up c.sh z h j) (va_up c.sv z v j) mI' mL' mZ' j
    by_cases e : j = z
    · subst e; rw [va_up_s, va_up_s, va_up_s]; exact hs
    · rw [va_up_n e, va_up_n e, va_up_n e]
      have hj : j < c.ns := hj
      have q := R.st j hj
      refine ⟨q.eh.mono (fun i hi => h0 j i e (by omega) hi) (fun i hi => h1 j i e (by omega) hi) (fun i hi => h2 j i e (by omega) hi) (hL _ _ (Or.inr ⟨e, by omega⟩)), by rw [hI _ _ (Or.inr e)]; exact q.eo, ?_⟩
      rcases q.ew with w | ⟨w1, w2⟩
      · exact Or.inl w
      · exact Or.inr ⟨w1, w2.mono (fun i hi => h0 (6 + j) i (by omega) (by omega) hi) (fun i hi => h1 (6 + j) i (by omega) (by omega) hi) (fun i hi => h2 (6 + j) i (by omega) (by omega) hi) (hL _ _ (Or.inr ⟨by omega, by omega⟩))⟩
  · have hj : c.ns ≤ j := hj
    have q := R.z0 j hj hj6
    have e : j ≠ z := by omega
    exact ⟨fun i hi => by rw [h0 j i e (by omega) hi]; exact q.t i hi, fun i hi => by rw [h1 j i e (by omega) hi]; exact q.ch i hi, fun i hi => by rw [h2 j i e (by omega) hi]; exact q.c i hi, by rw [hL _ _ (Or.inr ⟨e, by omega⟩)]; exact q.b, by rw [hI _ _ (Or.inr e)]; exact q.o⟩
theorem rel_d (R : Rel c sc mI mL mZ) {z : Nat} {l : Nat} {f : Int64} {m : Nat} {k : Nat → Nat → Int64} (hz : z < c.nd) (hI : ∀ k i, ((k ≠ 0 ∧ k ≠ 15) ∨ i ≠ z) → (k ≠ 16 ∧ k ≠ 17 ∨ (i < 10 * z ∨ 10 * z + 10 ≤ i)) → mI' k i = mI k i) (hL : ∀ k i, (k ≠ 1 ∨ i ≠ z) → mL' k i = mL k i)
    (hs : rd_ok l f m k mI' mL' z) : Rel (c.d z l f m k) sc mI' mL' mZ := by
  have b3 := R.b3
  refine ⟨R.s0, R.s1, R.s2, R.s3, R.s4, R.b0, R.b1, R.b2, R.b3, fun d hd => ?_, fun d hd hd4 => ?_, fun i hi => ?_, R.tb, R.tu, fun i hi => ?_, fun j hj => ?_, fun j hj hj6 => ?_⟩
  · show rd_ok (va_up c.dl z l d) (va_up c.df z f d) (va_up c.dm z m d) (va_up c.dk z k d) mI' mL' d
    by_cases e : d = z
    · subst e; rw [va_up_s, va_up_s, va_up_s, va_up_s]; exact hs
    · rw [va_up_n e, va_up_n e, va_up_n e, va_up_n e]
      exact (R.dv d hd).mono (hI _ _ (Or.inr e) (Or.inl (by omega))) (hL _ _ (Or.inr e)) (hI _ _ (Or.inr e) (Or.inl (by omega))) (fun i hi => hI _ _ (Or.inl (by omega)) (Or.inr (by omega))) (fun i hi => hI _ _ (Or.inl (by omega)) (Or.inr (by omega)))
  · have hd : c.nd ≤ d := hd
    obtain ⟨a, b, e⟩ := R.d0 d hd hd4
    have ne : d ≠ z := by omega
    exact ⟨by rw [hI _ _ (Or.inr ne) (Or.inl (by omega))]; exact a, by rw [hL _ _ (Or.inr ne)]; exact b, by rw [hI _ _ (Or.inr ne) (Or.inl (by omega))]; exact e⟩
  · have := R.tl i hi
    obtain ⟨a0, a1, a2, a3, a4, a5, a6⟩ := this
    have q : ∀ k, k ≠ 0 → k ≠ 15 → k ≠ 16 → k ≠ 17 → mI' k i = mI k i := fun k h1 h2 h3 h4 => hI _ _ (Or.inl ⟨h1, h2⟩) (Or.inl ⟨h3, h4⟩)
    exact ⟨by rw [q 2 (by omega) (by omega) (by omega) (by omega)]; exact a0, by rw [q 3 (by omega) (by omega) (by omega) (by omega)]; exact a1, by rw [q 4 (by omega) (by omega) (by omega) (by omega)]; exact a2, by rw [q 5 (by omega) (by omega) (by omega) (by omega)]; exact a3, by rw [q 6 (by omega) (by omega) (by omega) (by omega)]; exact a4, by rw [hL _ _ (Or.inl (by omega))]; exact a5, by rw [q 8 (by omega) (by omega) (by omega) (by omega)]; exact a6⟩
  · exact (R.co i hi).mono (fun k hk => hL _ _ (Or.inl (by omega)))
  · have q := R.st j hj
    refine ⟨q.eh.mono (fun i hi => rfl) (fun i hi => rfl) (fun i hi => rfl) (hL _ _ (Or.inl (by omega))), by rw [hI _ _ (Or.inl (by omega)) (Or.inl (by omega))]; exact q.eo, ?_⟩
    rcases q.ew with w | ⟨w1, w2⟩
    · exact Or.inl w
    · exact Or.inr ⟨w1, w2.mono (fun i hi => rfl) (fun i hi => rfl) (fun i hi => rfl) (hL _ _ (Or.inl (by omega)))⟩
  · have q := R.z0 j hj hj6
    exact ⟨q.t, q.ch, q.c, by rw [hL _ _ (Or.inl (by omega))]; exact q.b, by rw [hI _ _ (Or.inl (by omega)) (Or.inl (by omega))]; exact q.o⟩
theorem jb_h_i {to fr : Nat} (k : Nat) (hk : k ≤ 60) (r i : Nat) (hi : i < 60) : jb_h mZ to fr k (60 * r + i) = if r = to ∧ i < k then (mZ 10 (60 * to + i) || mZ 10 (60 * fr + i)) else mZ 10 (60 * r + i) := by
  induction k generalizing r i with
  | zero => simp [jb_h]
  | succ k ih =>
    have e1 : jb_h mZ to fr k (60 * to + k) = mZ 10 (60 * to + k) := by rw [ih (by omega) to k (by omega), if_neg (fun q => Nat.lt_irrefl _ q.2)]
    have e2 : jb_h mZ to fr k (60 * fr + k) = mZ 10 (60 * fr + k) := by rw [ih (by omega) fr k (by omega), if_neg (fun q => Nat.lt_irrefl _ q.2)]
    simp only [jb_h, va_up, e1, e2]
    by_cases e : 60 * r + i = 60 * to + k
    · have e3 : r = to := by omega
      have e4 : i = k := by omega
      subst e3; subst e4
      rw [if_pos rfl, if_pos ⟨rfl, by omega⟩]
    · rw [if_neg e, ih (by omega) r i hi]
      by_cases q : r = to ∧ i < k
      · rw [if_pos q, if_pos ⟨q.1, by omega⟩]
      · rw [if_neg q, if_neg (by omega)]
theorem jb_c_i {to fr : Nat} (k : Nat) (hk : k ≤ 60) (r i : Nat) (hi : i < 60) : jb_c mZ to fr k (60 * r + i) = if r = to ∧ i < k then (mZ 11 (60 * to + i) || mZ 11 (60 * fr + i)) else mZ 11 (60 * r + i) := by
  induction k generalizing r i with
  | zero => simp [jb_c]
  | succ k ih =>
    have e1 : jb_c mZ to fr k (60 * to + k) = mZ 11 (60 * to + k) := by rw [ih (by omega) to k (by omega), if_neg (fun q => Nat.lt_irrefl _ q.2)]
    have e2 : jb_c mZ to fr k (60 * fr + k) = mZ 11 (60 * fr + k) := by rw [ih (by omega) fr k (by omega), if_neg (fun q => Nat.lt_irrefl _ q.2)]
    simp only [jb_c, va_up, e1, e2]
    by_cases e : 60 * r + i = 60 * to + k
    · have e3 : r = to := by omega
      have e4 : i = k := by omega
      subst e3; subst e4
      rw [if_pos rfl, if_pos ⟨rfl, by omega⟩]
    · rw [if_neg e, ih (by omega) r i hi]
      by_cases q : r = to ∧ i < k
      · rw [if_pos q, if_pos ⟨q.1, by omega⟩]
      · rw [if_neg q, if_neg (by omega)]
theorem jb_f_i {to fr : Nat} (k : Nat) (hk : k ≤ 20) (r i : Nat) (hi : i < 20) : jb_f mZ to fr k (20 * r + i) = if r = to ∧ i < k then (mZ 12 (20 * to + i) || mZ 12 (20 * fr + i)) else mZ 12 (20 * r + i) := by
  induction k generalizing r i with
  | zero => simp [jb_f]
  | succ k ih =>
    have e1 : jb_f mZ to fr k (20 * to + k) = mZ 12 (20 * to + k) := by rw [ih (by omega) to k (by omega), if_neg (fun q => Nat.lt_irrefl _ q.2)]
    have e2 : jb_f mZ to fr k (20 * fr + k) = mZ 12 (20 * fr + k) := by rw [ih (by omega) fr k (by omega), if_neg (fun q => Nat.lt_irrefl _ q.2)]
    simp only [jb_f, va_up, e1, e2]
    by_cases e : 20 * r + i = 20 * to + k
    · have e3 : r = to := by omega
      have e4 : i = k := by omega
      subst e3; subst e4
      rw [if_pos rfl, if_pos ⟨rfl, by omega⟩]
    · rw [if_neg e, ih (by omega) r i hi]
      by_cases q : r = to ∧ i < k
      · rw [if_pos q, if_pos ⟨q.1, by omega⟩]
      · rw [if_neg q, if_neg (by omega)]
theorem jb_g_i {to fr : Nat} (k : Nat) (hk : k ≤ 60) : jb_g mL mZ to fr k = true ↔ (mL 13 to < mL 13 fr ∨ ∃ i, i < k ∧ ((mZ 10 (60 * fr + i) = true ∧ mZ 10 (60 * to + i) = false) ∨ (mZ 11 (60 * fr + i) = true ∧ mZ 11 (60 * to + i) = false))) := by
  induction k with
  | zero => simp [jb_g]
  | succ k ih =>
    simp only [jb_g]
    rw [jb_h_i k (by omega) fr k (by omega), if_neg (fun q => Nat.lt_irrefl _ q.2), jb_h_i k (by omega) to k (by omega), if_neg (fun q => Nat.lt_irrefl _ q.2), jb_c_i k (by omega) fr k (by omega), if_neg (fun q => Nat.lt_irrefl _ q.2), jb_c_i k (by omega) to k (by omega), if_neg (fun q => Nat.lt_irrefl _ q.2)]
    simp only [Bool.or_eq_true, Bool.and_eq_true, Bool.not_eq_true', ih (by omega)]
    constructor
    · rintro ((a | ⟨i, hi, p⟩) | p)
      · exact Or.inl a
      · exact Or.inr ⟨i, by omega, p⟩
      · exact Or.inr ⟨k, by omega, p⟩
    · rintro (a | ⟨i, hi, p⟩)
      · exact Or.inl (Or.inl a)
      · by_cases e : i = k
        · subst e; exact Or.inr p
        · exact Or.inl (Or.inr ⟨i, by omega, p⟩)
theorem jb_e_i {to fr : Nat} (k : Nat) (hk : k ≤ 20) : jb_e mL mZ to fr k = true ↔ (jb_g mL mZ to fr 60 = true ∨ ∃ i, i < k ∧ (mZ 12 (20 * fr + i) = true ∧ mZ 12 (20 * to + i) = false)) := by
  induction k with
  | zero => simp [jb_e]
  | succ k ih =>
    simp only [jb_e]
    rw [jb_f_i k (by omega) fr k (by omega), if_neg (fun q => Nat.lt_irrefl _ q.2), jb_f_i k (by omega) to k (by omega), if_neg (fun q => Nat.lt_irrefl _ q.2)]
    simp only [Bool.or_eq_true, Bool.and_eq_true, Bool.not_eq_true', ih (by omega)]
    constructor
    · rintro ((a | ⟨i, hi, p⟩) | p)
      · exact Or.inl a
      · exact Or.inr ⟨i, by omega, p⟩
      · exact Or.inr ⟨k, by omega, p⟩
    · rintro (a | ⟨i, hi, p⟩)
      · exact Or.inl (Or.inl a)
      · by_cases e : i = k
        · subst e; exact Or.inr p
        · exact Or.inl (Or.inr ⟨i, by omega, p⟩)
theorem bs_ne0 {x : Int64} : ¬ x = 0 ↔ ∃ i, i < 64 ∧ bs_in x i = true := by
  constructor
  · intro h
    apply Classical.byContradiction
    intro q
    apply h
    apply bs_ext
    intro k hk
    rw [bs_in_0 k hk]
    cases hb : bs_in x k with
    | false => rfl
    | true => exact absurd ⟨k, hk, hb⟩ q
  · rintro ⟨i, hi, hb⟩ e
    rw [e, bs_in_0 i hi] at hb
    cases hb
theorem rl_more {f g : Nat → Int64} {to fr : Nat} (hf : hr f mL mZ to) (hg : hr g mL mZ fr) : he_more f g = jb_e mL mZ to fr 20 := by
  rw [Bool.eq_iff_iff, jb_e_i 20 (Nat.le_refl _), jb_g_i 60 (Nat.le_refl _)]
  simp only [he_more, Bool.or_eq_true, decide_eq_true_eq, bs_ne0, hf.b, hg.b]
  have A : ∀ {p q : Bool} {w : Prop} [Decidable w], ((decide w && p) && !(decide w && q)) = true ↔ (w ∧ p = true ∧ q = false) := fun {p q w} _ => by
    by_cases h : w <;> cases p <;> cases q <;> simp [h]
  have T : ∀ i, i < 64 → (bs_in (g 0 &&& (f 0 ^^^ (-1))) i = true ↔ (i < 60 ∧ mZ 10 (60 * fr + i) = true ∧ mZ 10 (60 * to + i) = false)) := fun i hi => by
    rw [bs_in_and hi, bs_in_not hi, hf.t i hi, hg.t i hi, A]
  have C : ∀ i, i < 64 → (bs_in (g 1 &&& (f 1 ^^^ (-1))) i = true ↔ (i < 20 ∧ mZ 12 (20 * fr + i) = true ∧ mZ 12 (20 * to + i) = false)) := fun i hi => by
    rw [bs_in_and hi, bs_in_not hi, hf.c i hi, hg.c i hi, A]
  have H : ∀ i, i < 64 → (bs_in (g 2 &&& (f 2 ^^^ (-1))) i = true ↔ (i < 60 ∧ mZ 11 (60 * fr + i) = true ∧ mZ 11 (60 * to + i) = false)) := fun i hi => by
    rw [bs_in_and hi, bs_in_not hi, hf.ch i hi, hg.ch i hi, A]
  constructor
  · rintro (⟨i, hi, p⟩ | ⟨i, hi, p⟩ | ⟨i, hi, p⟩ | p)
    · obtain ⟨h1, h2⟩ := (T i hi).mp p; exact Or.inl (Or.inr ⟨i, h1, Or.inl h2⟩)
    · obtain ⟨h1, h2⟩ := (C i hi).mp p; exact Or.inr ⟨i, h1, h2⟩
    · obtain ⟨h1, h2⟩ := (H i hi).mp p; exact Or.inl (Or.inr ⟨i, h1, Or.inr h2⟩)
    · exact Or.inl (Or.inl p)
  · rintro ((p | ⟨i, hi, p | p⟩) | ⟨i, hi, p⟩)
    · exact Or.inr (Or.inr (Or.inr p))
    · exact Or.inl ⟨i, by omega, (T i (by omega)).mpr ⟨hi, p⟩⟩
    · exact Or.inr (Or.inr (Or.inl ⟨i, by omega, (H i (by omega)).mpr ⟨hi, p⟩⟩))
    · exact Or.inr (Or.inl ⟨i, by omega, (C i (by omega)).mpr ⟨hi, p⟩⟩)
theorem br_10 {sc : Nat → Nat} {to fr : Nat} (r i : Nat) (hi : i < 60) : (mo_bring sc mI mL mZ to fr).2.2.2.2 10 (60 * r + i) = if r = to then (mZ 10 (60 * to + i) || mZ 10 (60 * fr + i)) else mZ 10 (60 * r + i) := by
  show jb_h mZ to fr 60 (60 * r + i) = _
  rw [jb_h_i 60 (Nat.le_refl _) r i hi]
  by_cases e : r = to
  · rw [if_pos ⟨e, hi⟩, if_pos e]
  · rw [if_neg (fun q => e q.1), if_neg e]
theorem br_11 {sc : Nat → Nat} {to fr : Nat} (r i : Nat) (hi : i < 60) : (mo_bring sc mI mL mZ to fr).2.2.2.2 11 (60 * r + i) = if r = to then (mZ 11 (60 * to + i) || mZ 11 (60 * fr + i)) else mZ 11 (60 * r + i) := by
  show jb_c mZ to fr 60 (60 * r + i) = _
  rw [jb_c_i 60 (Nat.le_refl _) r i hi]
  by_cases e : r = to
  · rw [if_pos ⟨e, hi⟩, if_pos e]
  · rw [if_neg (fun q => e q.1), if_neg e]
theorem br_12 {sc : Nat → Nat} {to fr : Nat} (r i : Nat) (hi : i < 20) : (mo_bring sc mI mL mZ to fr).2.2.2.2 12 (20 * r + i) = if r = to then (mZ 12 (20 * to + i) || mZ 12 (20 * fr + i)) else mZ 12 (20 * r + i) := by
  show jb_f mZ to fr 20 (20 * r + i) = _
  rw [jb_f_i 20 (Nat.le_refl _) r i hi]
  by_cases e : r = to
  · rw [if_pos ⟨e, hi⟩, if_pos e]
  · rw [if_neg (fun q => e q.1), if_neg e]
theorem br_L {sc : Nat → Nat} {to fr : Nat} (k i : Nat) (h : k ≠ 13 ∨ i ≠ to) : (mo_bring sc mI mL mZ to fr).2.2.2.1 k i = mL k i := by
  show va_up mL 13 (jb_b mL to fr) k i = _
  by_cases e : k = 13
  · subst e
    rw [va_up_s, jb_b]
    exact if_neg (h.resolve_left (fun q => q rfl))
  · rw [va_up_n e]
theorem br_b {sc : Nat → Nat} {to fr : Nat} : (mo_bring sc mI mL mZ to fr).2.2.2.1 13 to = if mL 13 to < mL 13 fr then mL 13 fr else mL 13 to := by
  show va_up mL 13 (jb_b mL to fr) 13 to = _
  rw [va_up_s, jb_b]
  exact if_pos rfl
theorem br_hr {sc : Nat → Nat} {f g : Nat → Int64} {to fr : Nat} (hf : hr f mL mZ to) (hg : hr g mL mZ fr) : hr (he_join f g) (mo_bring sc mI mL mZ to fr).2.2.2.1 (mo_bring sc mI mL mZ to fr).2.2.2.2 to := by
  refine ⟨fun i hi => ?_, fun i hi => ?_, fun i hi => ?_, ?_⟩
  · rw [show he_join f g 0 = f 0 ||| g 0 from rfl, bs_in_or hi, hf.t i hi, hg.t i hi]
    by_cases q : i < 60
    · rw [br_10 to i q, if_pos rfl]; simp [q]
    · simp [q]
  · rw [show he_join f g 1 = f 1 ||| g 1 from rfl, bs_in_or hi, hf.c i hi, hg.c i hi]
    by_cases q : i < 20
    · rw [br_12 to i q, if_pos rfl]; simp [q]
    · simp [q]
  · rw [show he_join f g 2 = f 2 ||| g 2 from rfl, bs_in_or hi, hf.ch i hi, hg.ch i hi]
    by_cases q : i < 60
    · rw [br_11 to i q, if_pos rfl]; simp [q]
    · simp [q]
  · rw [br_b, show he_join f g 3 = if g 3 < f 3 then f 3 else g 3 from rfl, hf.b, hg.b]
    by_cases q : mL 13 fr < mL 13 to
    · rw [if_pos q, if_neg (by simp only [Int64.lt_iff_toInt_lt] at q ⊢; omega)]
    · rw [if_neg q]
      by_cases w : mL 13 to < mL 13 fr
      · rw [if_pos w]
      · rw [if_neg w]
        apply Int64.toInt_inj.mp
        simp only [Int64.lt_iff_toInt_lt] at q w
        omega
theorem br_I {sc : Nat → Nat} {to fr : Nat} : (mo_bring sc mI mL mZ to fr).2.2.1 = mI := rfl
theorem br_s {sc : Nat → Nat} {to fr : Nat} : (mo_bring sc mI mL mZ to fr).2.1 = sc := rfl
def x_bring (c : cs) (z y : Nat) : Bool × cs := ((to_bring (c.so z) (c.sh z) (c.sv z) (c.sh y)).1, c.z z (c.so z) (to_bring (c.so z) (c.sh z) (c.sv z) (c.sh y)).2.1 (to_bring (c.so z) (c.sh z) (c.sv z) (c.sh y)).2.2)
theorem e_bring (R : Rel c sc mI mL mZ) {z y : Nat} (hz : z < c.ns) (hy : y < c.ns) : (x_bring c z y).1 = (mo_joinTo sc mI mL mZ z y).1 ∧ (mo_joinTo sc mI mL mZ z y).2.1 = sc ∧ Rel (x_bring c z y).2 sc (mo_joinTo sc mI mL mZ z y).2.2.1 (mo_joinTo sc mI mL mZ z y).2.2.2.1 (mo_joinTo sc mI mL mZ z y).2.2.2.2 := by
  have b3 := R.b3
  have qz := R.st z hz
  have qy := R.st y hy
  rw [x_bring, mo_joinTo, qz.eo]
  rcases qz.ew with ⟨w1, w2⟩ | ⟨w1, w2⟩
  · have e : to_bring (c.so z) (c.sh z) (c.sv z) (c.sh y) = (he_more (c.sh z) (c.sh y), he_join (c.sh z) (c.sh y), c.sv z) := by rw [to_bring, if_pos w1]
    rw [e, if_neg (by rw [w1]; decide)]
    refine ⟨rl_more qz.eh qy.eh, rfl, ?_⟩
    refine rel_z R hz (fun k i _ => rfl) (fun k i h => br_L k i (h.imp id And.left)) (fun r i h1 h2 hi => ?_) (fun r i h1 h2 hi => ?_) (fun r i h1 h2 hi => ?_) ⟨br_hr qz.eh qy.eh, qz.eo, Or.inl ⟨w1, w2⟩⟩
    · rw [br_10 r i hi, if_neg h1]
    · rw [br_11 r i hi, if_neg h1]
    · rw [br_12 r i hi, if_neg h1]
  · have e : to_bring (c.so z) (c.sh z) (c.sv z) (c.sh y) = (he_more (c.sv z) (c.sh y), c.sh z, he_join (c.sv z) (c.sh y)) := by rw [to_bring, if_neg (fun q => by rw [q] at w1; exact absurd w1 (by decide))]
    rw [e, if_pos w1]
    refine ⟨rl_more w2 qy.eh, rfl, ?_⟩
    refine rel_z R hz (fun k i _ => rfl) (fun k i h => br_L k i (h.imp id And.right)) (fun r i h1 h2 hi => ?_) (fun r i h1 h2 hi => ?_) (fun r i h1 h2 hi => ?_) ⟨?_, qz.eo, Or.inr ⟨w1, br_hr w2 qy.eh⟩⟩
    · rw [br_10 r i hi, if_neg h2]
    · rw [br_11 r i hi, if_neg h2]
    · rw [br_12 r i hi, if_neg h2]
    · exact qz.eh.mono (fun i hi => by rw [br_10 z i hi, if_neg (by omega)]) (fun i hi => by rw [br_11 z i hi, if_neg (by omega)]) (fun i hi => by rw [br_12 z i hi, if_neg (by omega)]) (br_L _ _ (Or.inr (by omega)))
end WR
