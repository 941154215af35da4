theorem nn_ct_le2 {p q : Nat → Bool} {n : Nat} (h : ∀ i, i < n → p i = true → q i = true) : nn_ct p n ≤ nn_ct q n := by
  induction n with
  | zero => exact Nat.le_refl _
  | succ n ih =>
    have := ih (fun i hi => h i (by omega))
    simp only [nn_ct]
    by_cases hp : p n = true
    · rw [if_pos hp, if_pos (h n (by omega) hp)]; omega
    · rw [if_neg hp]; split <;> omega
theorem nn_ct_lt2 {p q : Nat → Bool} {n k : Nat} (h : ∀ i, i < n → p i = true → q i = true) (hk : k < n) (h1 : q k = true) (h2 : p k = false) : nn_ct p n < nn_ct q n := by
  induction n with
  | zero => omega
  | succ n ih =>
    simp only [nn_ct]
    by_cases e : k = n
    · subst e
      have := nn_ct_le2 (p := p) (q := q) (n := k) (fun i hi => h i (by omega))
      rw [if_neg (by rw [h2]; simp), if_pos h1]; omega
    · have := ih (fun i hi => h i (by omega)) (by omega)
      by_cases hp : p n = true
      · rw [if_pos hp, if_pos (h n (by omega) hp)]; omega
      · rw [if_neg hp]; split <;> omega
section GP
variable {fI : Nat → Nat → Int32} {fL : Nat → Nat → Int64} {mI : Nat → Nat → Int32} {mL : Nat → Nat → Int64} {mZ : Nat → Nat → Bool} {n z : Nat} {am : Int64} {dv : Int32}
theorem tl_gl_i (hn : n ≤ 60) (k : Nat) (hk : k ≤ n) : (∀ i, i < k → bs_in am i = true → fI 1 i ≤ (tl_gl fI am k).1) ∧ (∀ i, i < n → (bs_in (tl_gl fI am k).2 i = true ↔ (i < k ∧ bs_in am i = true ∧ fI 1 i = (tl_gl fI am k).1))) := by
  induction k with
  | zero =>
    refine ⟨fun i hi => by omega, fun i hi => ?_⟩
    show bs_in 0 i = true ↔ _
    rw [bs_in_0 i (by omega)]
    simp
  | succ k ih =>
    obtain ⟨i1, i2⟩ := ih (by omega)
    simp only [tl_gl]
    by_cases hb : bs_in am k = true
    · rw [if_pos hb]
      by_cases h1 : (tl_gl fI am k).1 < fI 1 k
      · rw [if_pos h1]
        refine ⟨fun i hi hbi => ?_, fun i hi => ?_⟩
        · by_cases e : i = k
          · subst e; exact Int32.le_refl _
          · have := i1 i (by omega) hbi
            simp only [Int32.le_iff_toInt_le, Int32.lt_iff_toInt_lt] at this h1 ⊢
            omega
        · show bs_in (0 ||| bs_b k) i = true ↔ _
          rw [bs_in_or (by omega), bs_in_0 i (by omega), bs_in_b (by omega) (by omega), Bool.false_or, decide_eq_true_eq]
          constructor
          · intro e; subst e; exact ⟨by omega, hb, rfl⟩
          · rintro ⟨a, b, e⟩
            apply Classical.byContradiction
            intro q
            have := i1 i (by omega) b
            rw [e] at this
            simp only [Int32.le_iff_toInt_le, Int32.lt_iff_toInt_lt] at this h1
            omega
      · rw [if_neg h1]
        by_cases h2 : fI 1 k = (tl_gl fI am k).1
        · rw [if_pos h2]
          refine ⟨fun i hi hbi => ?_, fun i hi => ?_⟩
          · by_cases e : i = k
            · subst e; rw [h2]; exact Int32.le_refl _
            · exact i1 i (by omega) hbi
          · show bs_in ((tl_gl fI am k).2 ||| bs_b k) i = true ↔ _
            rw [bs_in_or (by omega), bs_in_b (by omega) (by omega), Bool.or_eq_true, decide_eq_true_eq, i2 i hi]
            constructor
            · rintro (⟨a, b, e⟩ | e)
              · exact ⟨by omega, b, e⟩
              · subst e; exact ⟨by omega, hb, h2⟩
            · rintro ⟨a, b, e⟩
              by_cases q : i = k
              · exact Or.inr q
              · exact Or.inl ⟨by omega, b, e⟩
        · rw [if_neg h2]
          refine ⟨fun i hi hbi => ?_, fun i hi => ?_⟩
          · by_cases e : i = k
            · subst e
              simp only [Int32.le_iff_toInt_le, Int32.lt_iff_toInt_lt] at h1 ⊢
              omega
            · exact i1 i (by omega) hbi
          · rw [i2 i hi]
            constructor
            · rintro ⟨a, b, e⟩; exact ⟨by omega, b, e⟩
            · rintro ⟨a, b, e⟩
              refine ⟨?_, b, e⟩
              by_cases q : i = k
              · subst q; exact absurd e h2
              · omega
    · rw [if_neg hb]
      refine ⟨fun i hi hbi => i1 i (by by_cases q : i = k; (subst q; exact absurd hbi hb); omega) hbi, fun i hi => ?_⟩
      rw [i2 i hi]
      constructor
      · rintro ⟨a, b, e⟩; exact ⟨by omega, b, e⟩
      · rintro ⟨a, b, e⟩
        exact ⟨by by_cases q : i = k; (subst q; exact absurd b hb); omega, b, e⟩
theorem tl_gl_la (ht : ∀ i, i < n → tr_ok fI fL mI mL i) (ha : ∀ i, i < n → bs_in am i = (mZ 10 (60 * z + i) && decide (mI 2 i = dv))) (k : Nat) (hk : k ≤ n) : (tl_gl fI am k).1 = mo_la mI mZ z dv k := by
  induction k with
  | zero => rfl
  | succ k ih =>
    have ih := ih (by omega)
    obtain ⟨_, a1, _⟩ := ht k (by omega)
    simp only [tl_gl, mo_la]
    have hak := ha k (by omega)
    by_cases hb : bs_in am k = true
    · rw [if_pos hb]
      rw [hb] at hak
      have hak := hak.symm
      simp only [Bool.and_eq_true, decide_eq_true_eq] at hak
      by_cases h1 : (tl_gl fI am k).1 < fI 1 k
      · rw [if_pos h1, if_pos ⟨hak, by rw [← ih, ← a1]; simp only [Int32.le_iff_toInt_le, Int32.lt_iff_toInt_lt] at h1 ⊢; omega⟩, a1]
      · have h9 : ¬ ((mZ 10 (60 * z + k) = true ∧ mI 2 k = dv) ∧ ¬ mI 3 k ≤ mo_la mI mZ z dv k) := fun q => by have := q.2; rw [← ih, ← a1] at this; simp only [Int32.le_iff_toInt_le, Int32.lt_iff_toInt_lt] at h1 this; omega
        rw [if_neg h1, if_neg h9, ← ih]
        split <;> rfl
    · rw [if_neg hb]
      rw [Bool.eq_false_iff.mpr hb] at hak
      rw [if_neg (fun q => by have := q.1; simp [this.1, this.2] at hak), ih]
theorem mo_nx_i (hb : ∀ i, i < n → 0 ≤ mI 4 i) {la ab : Int32} (k : Nat) (hk : k ≤ n) : mo_nx mI mZ z dv la ab k = -1 ∨ (0 ≤ mo_nx mI mZ z dv la ab k ∧ ∃ i, i < k ∧ (mZ 10 (60 * z + i) = true ∧ mI 2 i = dv ∧ mI 3 i = la ∧ ¬ mI 4 i ≤ ab) ∧ mo_nx mI mZ z dv la ab k = mI 4 i) := by
  induction k with
  | zero => exact Or.inl rfl
  | succ k ih =>
    simp only [mo_nx]
    split
    · rename_i q
      exact Or.inr ⟨hb k (by omega), k, by omega, q.1, rfl⟩
    · rcases ih (by omega) with q | ⟨q, i, hi, p⟩
      · exact Or.inl q
      · exact Or.inr ⟨q, i, by omega, p⟩
theorem tl_nx_e (ht : ∀ i, i < n → tr_ok fI fL mI mL i) (hb : ∀ i, i < n → 0 ≤ mI 4 i) {la af : Int32} (ha : ∀ i, i < n → (bs_in am i = true ↔ (mZ 10 (60 * z + i) = true ∧ mI 2 i = dv ∧ mI 3 i = la))) (k : Nat) (hk : k ≤ n) : tl_nx fI am af k = mo_nx mI mZ z dv la af k := by
  induction k with
  | zero => rfl
  | succ k ih =>
    have ih := ih (by omega)
    obtain ⟨_, _, a2, _⟩ := ht k (by omega)
    have m := mo_nx_i (mI := mI) (mZ := mZ) (z := z) (dv := dv) (la := la) (ab := af) hb k (by omega)
    simp only [tl_nx, mo_nx, ih, a2, ha k (by omega)]
    have e : mo_nx mI mZ z dv la af k = -1 ↔ mo_nx mI mZ z dv la af k < 0 := by
      constructor
      · intro q; rw [q]; decide
      · intro q
        rcases m with m | m
        · exact m
        · have := m.1
          simp only [Int32.le_iff_toInt_le, Int32.lt_iff_toInt_lt] at this q
          omega
    by_cases q : (mZ 10 (60 * z + k) = true ∧ mI 2 k = dv ∧ mI 3 k = la) ∧ ¬ mI 4 k ≤ af ∧ (mo_nx mI mZ z dv la af k = -1 ∨ mI 4 k < mo_nx mI mZ z dv la af k)
    · rw [if_pos q, if_pos ⟨⟨q.1.1, q.1.2.1, q.1.2.2, q.2.1⟩, q.2.2.imp e.mp id⟩]
    · rw [if_neg q, if_neg (fun w => q ⟨⟨w.1.1, w.1.2.1, w.1.2.2.1⟩, w.1.2.2.2, w.2.imp e.mpr id⟩)]
def gp_ct (mI : Nat → Nat → Int32) (mZ : Nat → Nat → Bool) (n z : Nat) (dv la h : Int32) : Nat := nn_ct (fun i => (mZ 10 (60 * z + i) && (decide (mI 2 i = dv) && decide (mI 3 i = la))) && decide (¬ mI 4 i ≤ h)) n
theorem gp_ct_lt (hb : ∀ i, i < n → 0 ≤ mI 4 i) {la h : Int32} (h1 : ¬ mo_nx mI mZ z dv la h n = -1) : gp_ct mI mZ n z dv la (mo_nx mI mZ z dv la h n) < gp_ct mI mZ n z dv la h := by
  rcases mo_nx_i (mI := mI) (mZ := mZ) (z := z) (dv := dv) (la := la) (ab := h) hb n (Nat.le_refl n) with q | ⟨q0, i, hi, p, e⟩
  · exact absurd q h1
  · unfold gp_ct
    refine nn_ct_lt2 (k := i) (fun j hj w => ?_) hi ?_ ?_
    · simp only [Bool.and_eq_true, decide_eq_true_eq] at w ⊢
      refine ⟨w.1, ?_⟩
      have a := w.2
      have b := p.2.2.2
      rw [e] at a
      simp only [Int32.le_iff_toInt_le] at a b ⊢
      omega
    · simp [p.1, p.2.1, p.2.2.1, p.2.2.2]
    · simp [e, Int32.le_refl]
theorem gp_eq (ht : ∀ i, i < n → tr_ok fI fL mI mL i) (hb : ∀ i, i < n → 0 ≤ mI 4 i) {la : Int32} (ha : ∀ i, i < n → (bs_in am i = true ↔ (mZ 10 (60 * z + i) = true ∧ mI 2 i = dv ∧ mI 3 i = la))) : ∀ (f F : Nat) (r h : Int32), 0 ≤ h → gp_ct mI mZ n z dv la h < f → mo_gm (mo_nx mI mZ z dv la h n) < F → tl_ms fI am n f r h = mo_gp mI mZ n z dv la F r h (mo_nx mI mZ z dv la h n) := by
  intro f
  induction f with
  | zero => intro F r h _ q; omega
  | succ f ih =>
    intro F r h h0 hc hF
    cases F with
    | zero => omega
    | succ F =>
      have hn1 : ¬ h = -1 := fun q => by rw [q] at h0; exact absurd h0 (by decide)
      have e := tl_nx_e (fI := fI) (fL := fL) (mL := mL) ht hb (af := h) ha n (Nat.le_refl n)
      simp only [tl_ms, mo_gp]
      rw [if_neg hn1, e]
      rcases mo_nx_i (mI := mI) (mZ := mZ) (z := z) (dv := dv) (la := la) (ab := h) hb n (Nat.le_refl n) with q | ⟨q0, _⟩
      · rw [if_pos q, if_pos (by rw [q]; decide)]
      · have hnlt : ¬ mo_nx mI mZ z dv la h n < 0 := by simp only [Int32.le_iff_toInt_le, Int32.lt_iff_toInt_lt] at q0 ⊢; omega
        have hne : ¬ mo_nx mI mZ z dv la h n = -1 := fun w => by rw [w] at q0; exact absurd q0 (by decide)
        rw [if_neg hne, if_neg hnlt, mo_bw, if_pos h0]
        split
        · rfl
        · exact ih F _ _ q0 (by have := gp_ct_lt (mI := mI) (mZ := mZ) (z := z) (dv := dv) hb hne; omega) (by have := mo_gm_lt (mI := mI) (mZ := mZ) (z := z) (n := n) (d := dv) (la := la) hnlt; omega)
end GP
section AN
variable {c : cs} {sc : Nat → Nat} {mI : Nat → Nat → Int32} {mL : Nat → Nat → Int64} {mZ : Nat → Nat → Bool}
theorem mo_gp_s {n z : Nat} {dv la lf be nx : Int32} (F : Nat) : mo_gp mI mZ n z dv la (F + 1) lf be nx = if nx < 0 then -1 else if lf < mo_bw be nx then be + 1 + lf else mo_gp mI mZ n z dv la F (lf - mo_bw be nx) nx (mo_nx mI mZ z dv la nx n) := rfl
theorem e_gap (R : Rel c sc mI mL mZ) (d dv pk : Int32) : xm_gap c.ns c.nT c.fI c.sh d dv pk = mo_gap sc mI mZ d dv pk := by
  have b3 := R.b3
  have b1 := R.b1
  have hb : ∀ i, i < c.nT → 0 ≤ mI 4 i := fun i hi => by obtain ⟨_, _, a2, _⟩ := R.tl i hi; rw [← a2]; exact (R.tb i hi).2
  rw [xm_gap, mo_gap, R.s1, R.s3]
  by_cases q : mo_ok c.ns d = true
  · obtain ⟨z, hz, rfl⟩ := mo_ix (by omega) q
    have hh := (R.st z hz).eh
    by_cases hp : pk < 0
    · rw [if_neg (fun w => w.2 hp), if_neg (fun w => by have := w.2; simp only [Int32.le_iff_toInt_le, Int32.lt_iff_toInt_lt] at this hp; omega)]
    · have hp0 : 0 ≤ pk := by simp only [Int32.le_iff_toInt_le, Int32.lt_iff_toInt_lt] at hp ⊢; omega
      rw [if_pos ⟨q, hp⟩, if_pos ⟨q, hp0⟩, nI_clamp (by omega), tl_miss]
      have ha : ∀ i, i < c.nT → bs_in (c.sh z 0 &&& tl_ofD c.fI c.nT dv) i = (mZ 10 (60 * z + i) && decide (mI 2 i = dv)) := fun i hi => by
        obtain ⟨a0, _⟩ := R.tl i hi
        rw [bs_in_and (by omega), hh.t i (by omega), tl_ofD, bs_in_m (by omega) (by omega), tl_pD, a0]
        simp [hi, show i < 60 by omega]
      generalize c.sh z 0 &&& tl_ofD c.fI c.nT dv = am at ha
      obtain ⟨_, g2⟩ := tl_gl_i (fI := c.fI) (am := am) R.b1 c.nT (Nat.le_refl _)
      have hla := tl_gl_la R.tl ha c.nT (Nat.le_refl _)
      have ha2 : ∀ i, i < c.nT → (bs_in (tl_gl c.fI am c.nT).2 i = true ↔ (mZ 10 (60 * z + i) = true ∧ mI 2 i = dv ∧ mI 3 i = mo_la mI mZ z dv c.nT)) := fun i hi => by
        obtain ⟨_, a1, _⟩ := R.tl i hi
        rw [g2 i hi, hla, a1, ha i hi]
        simp only [Bool.and_eq_true, decide_eq_true_eq, hi, true_and, and_assoc]
      generalize (tl_gl c.fI am c.nT).2 = am2 at ha2
      generalize mo_la mI mZ z dv c.nT = la at ha2
      rw [tl_nx_e (fL := c.fL) (mL := mL) R.tl hb (af := -1) ha2 c.nT (Nat.le_refl _)]
      rw [show (2147483649 : Nat) = 2147483648 + 1 from rfl, mo_gp_s]
      rcases mo_nx_i (mI := mI) (mZ := mZ) (z := z) (dv := dv) (la := la) (ab := -1) hb c.nT (Nat.le_refl _) with w | ⟨q0, i, hi, p, e⟩
      · rw [if_pos (by rw [w]; decide), w]
        cases c.nT with
        | zero => rfl
        | succ m => rw [tl_ms, if_pos rfl]
      · have hnlt : ¬ mo_nx mI mZ z dv la (-1) c.nT < 0 := by simp only [Int32.le_iff_toInt_le, Int32.lt_iff_toInt_lt] at q0 ⊢; omega
        have hbw : mo_bw (-1) (mo_nx mI mZ z dv la (-1) c.nT) = 0 := by rw [mo_bw, if_neg (by decide)]
        rw [if_neg hnlt, hbw, if_neg hp, show pk - 0 = pk by simp]
        refine gp_eq R.tl hb ha2 c.nT _ pk _ q0 ?_ ?_
        · have h1 := gp_ct_lt (mI := mI) (mZ := mZ) (z := z) (dv := dv) (la := la) (h := -1) hb (fun w => by rw [w] at q0; exact absurd q0 (by decide))
          have h2 : gp_ct mI mZ c.nT z dv la (-1) ≤ c.nT := nn_ct_le
          omega
        · have h1 := mo_gm_lt (mI := mI) (mZ := mZ) (z := z) (n := c.nT) (d := dv) (la := la) hnlt
          have h2 := mo_gm_le (mo_nx mI mZ z dv la (-1) c.nT)
          omega
  · rw [if_neg (fun w => q w.1), if_neg (fun w => q w.1)]
end AN
