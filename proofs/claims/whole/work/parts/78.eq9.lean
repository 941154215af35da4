theorem nn_fl_no {p : Nat → Bool} {n : Nat} (h : nn_fl p n = none) : ∀ i, i < n → p i = false := by
  induction n with
  | zero => intro i hi; omega
  | succ n ih =>
    intro i hi
    simp only [nn_fl] at h
    by_cases hp : p n = true
    · rw [if_pos hp] at h; cases h
    · rw [if_neg hp] at h
      by_cases e : i = n
      · subst e; exact Bool.eq_false_iff.mpr hp
      · exact ih h i (by omega)
theorem nn_fl_yes {p : Nat → Bool} {n j : Nat} (h : nn_fl p n = some j) : j < n ∧ p j = true ∧ ∀ i, j < i → i < n → p i = false := by
  induction n with
  | zero => simp [nn_fl] at h
  | succ n ih =>
    simp only [nn_fl] at h
    by_cases hp : p n = true
    · rw [if_pos hp] at h; cases h; exact ⟨by omega, hp, fun i h1 h2 => by omega⟩
    · rw [if_neg hp] at h
      obtain ⟨a, b, e⟩ := ih h
      refine ⟨by omega, b, fun i h1 h2 => ?_⟩
      by_cases q : i = n
      · subst q; exact Bool.eq_false_iff.mpr hp
      · exact e i h1 (by omega)
theorem w_pq {x : Int64} (h : ok_num x = true) : pq x ≤ 1000000 ∧ x = lN (pq x) := by
  obtain ⟨k, hk, rfl⟩ := w_nat h
  rw [pq_lN2 (by omega)]
  exact ⟨hk, rfl⟩
theorem w_subI {a b : Nat} (ha : a ≤ 1000000) (hb : b ≤ 1000000) : (nI b - nI a).toInt64 = lN b - lN a := by
  apply Int64.toInt_inj.mp
  rw [Int32.toInt_toInt64, pk_sub_toInt (by omega) (by omega), Int64.toInt_sub, lN_toInt (by omega), lN_toInt (by omega)]
  exact (Int.bmod_eq_of_le (by omega) (by omega)).symm
section CO
variable {l : Nat} {f : Int64} {m : Nat} {k : Nat → Nat → Int64} {mI : Nat → Nat → Int32} {mL : Nat → Nat → Int64} {z : Nat}
theorem rd_16 (D : rd_ok l f m k mI mL z) {i : Nat} (hi : i < m) : mI 16 (10 * z + i) = nI (pq (k 0 i)) ∧ k 0 i = lN (pq (k 0 i)) ∧ pq (k 0 i) ≤ 1000000 := by
  obtain ⟨h1, h2⟩ := w_pq (D.r0 i hi)
  refine ⟨?_, h2, h1⟩
  have := D.k0 i hi
  rw [← w_eq, ← this, nI_l (by omega)]
  exact h2
theorem rd_17 (D : rd_ok l f m k mI mL z) {i : Nat} (hi : i < m) : mI 17 (10 * z + i) = nI (pq (k 1 i)) ∧ k 1 i = lN (pq (k 1 i)) ∧ pq (k 1 i) ≤ 1000000 := by
  obtain ⟨h1, h2⟩ := w_pq (D.r1 i hi)
  refine ⟨?_, h2, h1⟩
  have := D.k1 i hi
  rw [← w_eq, ← this, nI_l (by omega)]
  exact h2
theorem rd_up (D : rd_ok l f m k mI mL z) (i : Nat) (hi : i + 1 < m) : pq (k 0 i) < pq (k 0 (i + 1)) ∧ pq (k 1 i) ≤ pq (k 1 (i + 1)) := by
  obtain ⟨_, a1, a2⟩ := rd_16 D (show i < m by omega)
  obtain ⟨_, b1, b2⟩ := rd_16 D hi
  obtain ⟨_, c1, c2⟩ := rd_17 D (show i < m by omega)
  obtain ⟨_, d1, d2⟩ := rd_17 D hi
  have h0 := D.u0 i hi
  have h1 := D.u1 i hi
  rw [a1, b1, lN_lt (by omega) (by omega)] at h0
  rw [c1, d1, lN_le (by omega) (by omega)] at h1
  exact ⟨h0, h1⟩
theorem rd_upt (D : rd_ok l f m k mI mL z) : ∀ (n i : Nat), i + n < m → pq (k 0 i) ≤ pq (k 0 (i + n)) := by
  intro n
  induction n with
  | zero => intro i _; exact Nat.le_refl _
  | succ n ih =>
    intro i hi
    have h1 := ih i (by omega)
    have h2 := (rd_up D (i + n) (by omega)).1
    rw [show i + (n + 1) = i + n + 1 by omega]
    omega
theorem mo_cb_i (D : rd_ok l f m k mI mL z) {x : Int64} (n : Nat) (hn : n ≤ m) : mo_cb mI z x n = (nn_fl (ck_p k x) n).map (fun i => 10 * z + i) := by
  induction n with
  | zero => rfl
  | succ n ih =>
    simp only [mo_cb, nn_fl]
    rw [← D.k0 n (by omega)]
    by_cases h : k 0 n ≤ x
    · rw [if_pos h, if_pos (show ck_p k x n = true by simp [ck_p, h])]; rfl
    · rw [if_neg h, if_neg (show ¬ ck_p k x n = true by simp [ck_p, h])]; exact ih (by omega)
theorem mo_ch_no (D : rd_ok l f m k mI mL z) {x : Int64} (n : Nat) (hn : n ≤ m) (h : ∀ i, i < n → k 0 i ≤ x) : mo_ch mI z x n = none := by
  induction n with
  | zero => rfl
  | succ n ih =>
    simp only [mo_ch]
    rw [ih (by omega) (fun i hi => h i (by omega))]
    rw [← D.k0 n (by omega)]
    have := h n (by omega)
    rw [if_neg (by simp only [Int64.le_iff_toInt_le, Int64.lt_iff_toInt_lt] at this ⊢; omega)]
theorem mo_ch_at (D : rd_ok l f m k mI mL z) {x : Int64} {t : Nat} (n : Nat) (hn : n ≤ m) (ht : t < n) (h : ∀ i, i < t → k 0 i ≤ x) (h2 : ¬ k 0 t ≤ x) : mo_ch mI z x n = some (10 * z + t) := by
  induction n with
  | zero => omega
  | succ n ih =>
    simp only [mo_ch]
    by_cases e : t = n
    · subst e
      rw [mo_ch_no D t (by omega) h]
      rw [← D.k0 t (by omega)]
      rw [if_pos (by simp only [Int64.le_iff_toInt_le, Int64.lt_iff_toInt_lt] at h2 ⊢; omega)]
    · rw [ih (by omega) (by omega)]
theorem rd_btw (D : rd_ok l f m k mI mL z) {X j : Nat} (hX : X ≤ 1000000) (hj : j + 1 < m) (hx : pq (k 0 j) ≤ X) :
    mo_wd mI (10 * z + j) (10 * z + (j + 1)) = lN (pq (k 0 (j + 1)) - pq (k 0 j)) ∧ k 0 (j + 1) - k 0 j = lN (pq (k 0 (j + 1)) - pq (k 0 j)) ∧
    mo_ov mI (lN X) (10 * z + j) (10 * z + (j + 1)) = lN (pq (k 1 j) * (pq (k 0 (j + 1)) - pq (k 0 j)) + (X - pq (k 0 j)) * (pq (k 1 (j + 1)) - pq (k 1 j))) ∧
    k 1 j * (k 0 (j + 1) - k 0 j) + (lN X - k 0 j) * (k 1 (j + 1) - k 1 j) = lN (pq (k 1 j) * (pq (k 0 (j + 1)) - pq (k 0 j)) + (X - pq (k 0 j)) * (pq (k 1 (j + 1)) - pq (k 1 j))) ∧
    pq (k 1 j) * (pq (k 0 (j + 1)) - pq (k 0 j)) + (X - pq (k 0 j)) * (pq (k 1 (j + 1)) - pq (k 1 j)) < 2 ^ 63 := by
  obtain ⟨a0, a1, a2⟩ := rd_16 D (show j < m by omega)
  obtain ⟨b0, b1, b2⟩ := rd_16 D hj
  obtain ⟨c0, c1, c2⟩ := rd_17 D (show j < m by omega)
  obtain ⟨d0, d1, d2⟩ := rd_17 D hj
  obtain ⟨u0, u1⟩ := rd_up D j hj
  generalize pq (k 0 j) = A at *
  generalize pq (k 0 (j + 1)) = A' at *
  generalize pq (k 1 j) = B at *
  generalize pq (k 1 (j + 1)) = B' at *
  have e1 : mo_wd mI (10 * z + j) (10 * z + (j + 1)) = lN (A' - A) := by rw [mo_wd, a0, b0, w_subI a2 b2, lN_sub (by omega)]
  have p1 : B * (A' - A) ≤ 1000000 * 1000000 := Nat.mul_le_mul c2 (by omega)
  have p2 : (X - A) * (B' - B) ≤ 1000000 * 1000000 := Nat.mul_le_mul (by omega) (by omega)
  refine ⟨e1, by rw [a1, b1, lN_sub (by omega)], ?_, ?_, by omega⟩
  · rw [mo_ov, e1, a0, c0, d0, w_subI c2 d2, nI_l (by omega), nI_l (by omega), lN_sub (by omega), lN_sub (by omega), lN_mul, lN_mul, lN_add]
  · rw [a1, b1, c1, d1, lN_sub (by omega), lN_sub (by omega), lN_sub (by omega), lN_mul, lN_mul, lN_add]
theorem rd_ln (D : rd_ok l f m k mI mL z) {x : Int64} (hx : ok_num x = true) {i j : Nat} (hi : mo_cb mI z x m = some i) (hj : mo_ch mI z x m = some j) : ∃ t, t + 1 < m ∧ nn_fl (ck_p k x) m = some t ∧ i = 10 * z + t ∧ j = 10 * z + (t + 1) := by
  rw [mo_cb_i D m (Nat.le_refl _)] at hi
  cases hf : nn_fl (ck_p k x) m with
  | none => rw [hf] at hi; cases hi
  | some t =>
    rw [hf] at hi
    simp only [Option.map_some, Option.some.injEq] at hi
    obtain ⟨t1, t2, t3⟩ := nn_fl_yes hf
    obtain ⟨X, hX, rfl⟩ := w_nat hx
    simp only [ck_p, decide_eq_true_eq] at t2
    have le : ∀ i, i ≤ t → k 0 i ≤ lN X := fun i hi => by
      obtain ⟨_, a1, a2⟩ := rd_16 D (show i < m by omega)
      obtain ⟨_, b1, b2⟩ := rd_16 D t1
      have := rd_upt D (t - i) i (by omega)
      rw [show i + (t - i) = t by omega] at this
      rw [b1, lN_le (by omega) (by omega)] at t2
      rw [a1, lN_le (by omega) (by omega)]
      omega
    by_cases h : t + 1 < m
    · refine ⟨t, h, rfl, hi.symm, ?_⟩
      have q := t3 (t + 1) (by omega) h
      simp only [ck_p, decide_eq_false_iff_not] at q
      rw [mo_ch_at D m (Nat.le_refl _) h (fun i hi => le i (by omega)) q] at hj
      cases hj; rfl
    · rw [mo_ch_no D m (Nat.le_refl _) (fun i hi => le i (by omega))] at hj
      cases hj
theorem rd_lnn (D : rd_ok l f m k mI mL z) {x : Int64} (hx : ok_num x = true) {i j : Nat} (hi : mo_cb mI z x m = some i) (hj : mo_ch mI z x m = some j) : mo_ln mI x i j := by
  obtain ⟨t, h1, h2, rfl, rfl⟩ := rd_ln D hx hi hj
  obtain ⟨X, hX, rfl⟩ := w_nat hx
  obtain ⟨t1, t2, t3⟩ := nn_fl_yes h2
  simp only [ck_p, decide_eq_true_eq] at t2
  obtain ⟨_, b1, b2⟩ := rd_16 D t1
  obtain ⟨_, _, d2⟩ := rd_16 D h1
  rw [b1, lN_le (by omega) (by omega)] at t2
  obtain ⟨e1, _, e3, _, e5⟩ := rd_btw D hX h1 t2
  have u0 := (rd_up D t h1).1
  exact ⟨_, _, e5, by omega, by omega, e3, e1⟩
theorem xm_abs_lN {a : Nat} (h : a < 2 ^ 63) : xm_abs (lN a) = lN a := by
  rw [xm_abs]
  by_cases e : a = 0
  · subst e; rfl
  · rw [if_pos (show 0 < lN a from (pk_lLT (a := 0) (by omega) h).mpr (show 0 < a by omega))]
theorem e_cv (D : rd_ok l f m k mI mL z) {x : Int64} (hx : ok_num x = true) (pt : Int32) : xm_cv (ck_num k m x) (ck_den k m x) pt (cd_f 100 (xm_abs (ck_num k m x)) (ck_den k m x)) = mo_cq mI x pt (mo_cb mI z x m) (mo_ch mI z x m) := by
  have one : ∀ o : Int64, xm_cv o 1 pt (cd_f 100 (xm_abs o) 1) = if pt = 0 then o else 1 := fun o => by
    rw [cd_1 98, xm_cv, if_neg (by decide)]
    by_cases h : pt = 0
    · rw [if_pos h, Int64.div_one]
    · rw [if_neg h]; rfl
  have off : ∀ i, i < m → x + k 1 i - k 0 i = x + mo_of mI (10 * z + i) := fun i hi => by
    obtain ⟨a0, a1, a2⟩ := rd_16 D hi
    obtain ⟨c0, c1, c2⟩ := rd_17 D hi
    rw [mo_of, a0, c0, w_subI a2 c2, ← a1, ← c1, Int64.sub_eq_add_neg, Int64.sub_eq_add_neg, Int64.add_assoc]
  cases hf : nn_fl (ck_p k x) m with
  | none =>
    have hb : mo_cb mI z x m = none := by rw [mo_cb_i D m (Nat.le_refl _), hf]; rfl
    have hden : ck_den k m x = 1 := by rw [ck_den, ck_mb, hf]; rfl
    by_cases h0 : m = 0
    · have hc : mo_ch mI z x m = none := by rw [h0]; rfl
      rw [hb, hc, hden, ck_num, if_pos h0, one]
      simp only [mo_cq, Int64.add_zero]
    · have q := nn_fl_no hf 0 (by omega)
      simp only [ck_p, decide_eq_false_iff_not] at q
      rw [hb, mo_ch_at D m (Nat.le_refl _) (show 0 < m by omega) (fun i hi => by omega) q, hden, one, ck_num, if_neg h0, ck_mb, hf, ck_nv, off 0 (by omega)]
      simp only [mo_cq]
  | some t =>
    obtain ⟨t1, t2, t3⟩ := nn_fl_yes hf
    have hb : mo_cb mI z x m = some (10 * z + t) := by rw [mo_cb_i D m (Nat.le_refl _), hf]; rfl
    obtain ⟨X, hX, rfl⟩ := w_nat hx
    simp only [ck_p, decide_eq_true_eq] at t2
    have le : ∀ i, i ≤ t → k 0 i ≤ lN X := fun i hi => by
      obtain ⟨_, a1, a2⟩ := rd_16 D (show i < m by omega)
      obtain ⟨_, b1, b2⟩ := rd_16 D t1
      have := rd_upt D (t - i) i (by omega)
      rw [show i + (t - i) = t by omega] at this
      rw [b1, lN_le (by omega) (by omega)] at t2
      rw [a1, lN_le (by omega) (by omega)]
      omega
    by_cases h : t + 1 < m
    · have q := t3 (t + 1) (by omega) h
      simp only [ck_p, decide_eq_false_iff_not] at q
      have hc := mo_ch_at D m (Nat.le_refl _) h (fun i hi => le i (by omega)) q
      obtain ⟨_, b1, b2⟩ := rd_16 D t1
      obtain ⟨_, _, d2⟩ := rd_16 D h
      have t2' := t2
      rw [b1, lN_le (by omega) (by omega)] at t2'
      obtain ⟨e1, e2, e3, e4, e5⟩ := rd_btw D hX h t2'
      have u0 := (rd_up D t h).1
      have hden : ck_den k m (lN X) = lN (pq (k 0 (t + 1)) - pq (k 0 t)) := by rw [ck_den, ck_mb, hf, ck_dv, if_pos h, e2]
      have hnum : ck_num k m (lN X) = lN (pq (k 1 t) * (pq (k 0 (t + 1)) - pq (k 0 t)) + (X - pq (k 0 t)) * (pq (k 1 (t + 1)) - pq (k 1 t))) := by rw [ck_num, if_neg (by omega), ck_mb, hf, ck_nv, if_pos h, e4]
      rw [hb, hc, hden, hnum]
      simp only [mo_cq]
      rw [e1, e3, pq_lN2 e5, pq_lN2 (by omega), xm_abs_lN e5, cd_gcd 20 100 _ _ (by omega) (by omega) e5 (by omega), xm_cv]
      have hg : 0 < Nat.gcd (pq (k 1 t) * (pq (k 0 (t + 1)) - pq (k 0 t)) + (X - pq (k 0 t)) * (pq (k 1 (t + 1)) - pq (k 1 t))) (pq (k 0 (t + 1)) - pq (k 0 t)) := Nat.gcd_pos_of_pos_right _ (by omega)
      have hgl := Nat.gcd_le_right (n := pq (k 0 (t + 1)) - pq (k 0 t)) (pq (k 1 t) * (pq (k 0 (t + 1)) - pq (k 0 t)) + (X - pq (k 0 t)) * (pq (k 1 (t + 1)) - pq (k 1 t))) (by omega)
      generalize Nat.gcd _ _ = g at hg hgl ⊢
      rw [if_neg (show ¬ lN g = 0 from fun e => by have := (pk_lEQ (by omega) (by omega)).mp (show lN g = lN 0 from e); omega)]
      by_cases hp : pt = 0
      · rw [if_pos hp, if_pos hp]
      · rw [if_neg hp, if_neg hp]
    · have hc := mo_ch_no D m (Nat.le_refl _) (x := lN X) (fun i hi => le i (by omega))
      have hden : ck_den k m (lN X) = 1 := by rw [ck_den, ck_mb, hf, ck_dv, if_neg h]
      rw [hb, hc, hden, one, ck_num, if_neg (show ¬ m = 0 by omega), ck_mb, hf, ck_nv, if_neg h, off t t1]
      simp only [mo_cq]
end CO
section AN
variable {c : cs} {sc : Nat → Nat} {mI : Nat → Nat → Int32} {mL : Nat → Nat → Int64} {mZ : Nat → Nat → Bool}
theorem e_corr (R : Rel c sc mI mL mZ) (d : Int32) (x : Int64) (pt : Int32) : xm_corr c.nd c.dm c.dk d x pt = mo_corr sc mI d x pt := by
  have b0 := R.b0
  rw [xm_corr, mo_corr, R.s0, mo_in_num]
  by_cases q : mo_ok c.nd d = true ∧ ok_num x = true ∧ ¬ pt < 0 ∧ ¬ 1 < pt
  · rw [if_pos q, if_pos q]
    obtain ⟨q1, q2, _⟩ := q
    obtain ⟨z, hz, rfl⟩ := mo_ix (by omega) q1
    have D := R.dv z hz
    have mb := D.mb
    rw [nI_clamp (by omega), D.em, nI_clamp (by omega)]
    exact e_cv D q2 pt
  · rw [if_neg q, if_neg q]
theorem e_ln (R : Rel c sc mI mL mZ) {z : Nat} (hz : z < sc 0) {x : Int64} (hx : mo_in x 0 1000000 = true) {i j : Nat} (hi : mo_cb mI z x (mI 15 z).toNatClampNeg = some i) (hj : mo_ch mI z x (mI 15 z).toNatClampNeg = some j) : mo_ln mI x i j := by
  rw [R.s0] at hz
  have D := R.dv z hz
  have mb := D.mb
  rw [D.em, nI_clamp (by omega)] at hi hj
  exact rd_lnn D hx hi hj
theorem e_hm (R : Rel c sc mI mL mZ) : ∀ d, d < 4 → ∃ j, j ≤ 10 ∧ mI 15 d = nI j := fun d hd => by
  by_cases h : d < c.nd
  · exact ⟨_, (R.dv d h).mb, (R.dv d h).em⟩
  · exact ⟨0, by omega, (R.d0 d (by omega) hd).2.2⟩
def c_0 : cs := cs.mk 0 0 0 0 0 (fun _ _ => 0) (fun _ _ => 0) (fun _ _ => 0) (fun _ _ => 0) (fun _ => 0) (fun _ => 0) (fun _ => 0) (fun _ _ _ => 0) (fun _ => 0) (fun _ _ => 0) (fun _ _ => 0)
theorem Rel_0 (hs : ∀ k, k < 5 → sc k = 0) (hI : ∀ k i, k ≠ 14 → mI k i = 0) (hI14 : ∀ i, i < 6 → mI 14 i = -1) (hL : ∀ k i, mL k i = 0) (hZ : ∀ k i, mZ k i = false) : Rel c_0 sc mI mL mZ :=
  ⟨hs 0 (by omega), hs 1 (by omega), hs 2 (by omega), hs 3 (by omega), hs 4 (by omega), Nat.zero_le _, Nat.zero_le _, Nat.zero_le _, Nat.zero_le _, fun d hd => absurd hd (Nat.not_lt_zero _), fun d _ _ => ⟨hI _ _ (by omega), hL _ _, hI _ _ (by omega)⟩, fun i hi => absurd hi (Nat.not_lt_zero _), fun i hi => absurd hi (Nat.not_lt_zero _), fun i j hi => absurd hi (Nat.not_lt_zero _), fun i hi => absurd hi (Nat.not_lt_zero _), fun j hj => absurd hj (Nat.not_lt_zero _), fun j _ hj => ⟨fun i _ => hZ _ _, fun i _ => hZ _ _, fun i _ => hZ _ _, hL _ _, hI14 j hj⟩⟩
end AN
