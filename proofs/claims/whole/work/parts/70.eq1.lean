theorem nn_fm_of {p : Nat → Bool} {lt : Nat → Nat → Bool} : ∀ {n j : Nat}, j < n → p j = true → ∃ i, nn_fm p lt n = some i := by
  intro n
  induction n with
  | zero => intro j h; omega
  | succ n ih =>
    intro j hj hp
    simp only [nn_fm]
    by_cases hq : p n = true
    · rw [if_pos hq]
      cases hf : nn_fm p lt n with
      | none => exact ⟨n, rfl⟩
      | some i =>
        simp only [nn_up]
        by_cases hl : lt n i = true
        · rw [if_pos hl]; exact ⟨n, rfl⟩
        · rw [if_neg hl]; exact ⟨i, rfl⟩
    · rw [if_neg hq]
      have : j ≠ n := fun e => hq (e ▸ hp)
      exact ih (by omega) hp
theorem nn_fm_least {p : Nat → Bool} {lt : Nat → Nat → Bool} {N : Nat} (irr : ∀ a, lt a a = false) (tr : ∀ a b c, a < N → b < N → c < N → p a = true → p b = true → p c = true → lt a b = true → lt b c = true → lt a c = true) : ∀ {n i : Nat}, n ≤ N → nn_fm p lt n = some i → ∀ j, j < n → p j = true → lt j i = false := by
  intro n
  induction n with
  | zero => intro i _ h; simp [nn_fm] at h
  | succ n ih =>
    intro i hN h j hj hp
    simp only [nn_fm] at h
    by_cases hq : p n = true
    · rw [if_pos hq] at h
      cases hf : nn_fm p lt n with
      | none =>
        rw [hf] at h
        simp only [nn_up] at h
        cases h
        by_cases e : j = n
        · subst e; exact irr _
        · obtain ⟨i, hi⟩ := nn_fm_of (p := p) (lt := lt) (n := n) (j := j) (by omega) hp
          rw [hf] at hi; cases hi
      | some k =>
        rw [hf] at h
        simp only [nn_up] at h
        have hk := nn_fm_p hf
        have hkl := nn_fm_lt hf
        by_cases hl : lt n k = true
        · rw [if_pos hl] at h
          cases h
          by_cases e : j = n
          · subst e; exact irr _
          · cases hx : lt j n with
            | false => rfl
            | true =>
              have h1 := ih (by omega) hf j (by omega) hp
              rw [tr j n k (by omega) (by omega) (by omega) hp hq hk hx hl] at h1
              cases h1
        · rw [if_neg hl] at h
          cases h
          by_cases e : j = n
          · subst e; exact Bool.eq_false_iff.mpr hl
          · exact ih (by omega) hf j (by omega) hp
    · rw [if_neg hq] at h
      have : j ≠ n := fun e => hq (e ▸ hp)
      exact ih (by omega) h j (by omega) hp
theorem nn_fm_iff {p : Nat → Bool} {lt : Nat → Nat → Bool} {n i : Nat} (irr : ∀ a, lt a a = false) (tr : ∀ a b c, a < n → b < n → c < n → p a = true → p b = true → p c = true → lt a b = true → lt b c = true → lt a c = true) (tot : ∀ a b, a < n → b < n → p a = true → p b = true → a ≠ b → lt a b = true ∨ lt b a = true) : nn_fm p lt n = some i ↔ (i < n ∧ p i = true ∧ ∀ j, j < n → p j = true → lt j i = false) := by
  constructor
  · intro h
    exact ⟨nn_fm_lt h, nn_fm_p h, nn_fm_least irr tr (Nat.le_refl n) h⟩
  · rintro ⟨h1, h2, h3⟩
    obtain ⟨k, hk⟩ := nn_fm_of (p := p) (lt := lt) h1 h2
    by_cases e : k = i
    · rw [hk, e]
    · have a1 := nn_fm_least irr tr (Nat.le_refl n) hk i h1 h2
      have a2 := h3 k (nn_fm_lt hk) (nn_fm_p hk)
      rcases tot k i (nn_fm_lt hk) h1 (nn_fm_p hk) h2 e with q | q
      · rw [q] at a2; cases a2
      · rw [q] at a1; cases a1
theorem nn_any_no {p : Nat → Bool} {n : Nat} : nn_any p n = false ↔ ∀ k, k < n → p k = false := by
  constructor
  · intro h k hk
    cases hp : p k with
    | false => rfl
    | true => rw [nn_any_of hk hp] at h; cases h
  · intro h
    cases hp : nn_any p n with
    | false => rfl
    | true =>
      obtain ⟨k, h1, h2⟩ := nn_any_iff.mp hp
      rw [h k h1] at h2; cases h2
def hr (h : Nat → Int64) (mL : Nat → Nat → Int64) (mZ : Nat → Nat → Bool) (r : Nat) : Prop :=
  (∀ i, i < 64 → bs_in (h 0) i = (decide (i < 60) && mZ 10 (60 * r + i))) ∧
  (∀ i, i < 64 → bs_in (h 1) i = (decide (i < 20) && mZ 12 (20 * r + i))) ∧
  (∀ i, i < 64 → bs_in (h 2) i = (decide (i < 60) && mZ 11 (60 * r + i))) ∧ h 3 = mL 13 r
theorem hr.t {h : Nat → Int64} {mL : Nat → Nat → Int64} {mZ : Nat → Nat → Bool} {r : Nat} (q : hr h mL mZ r) : ∀ i, i < 64 → bs_in (h 0) i = (decide (i < 60) && mZ 10 (60 * r + i)) := q.1
theorem hr.c {h : Nat → Int64} {mL : Nat → Nat → Int64} {mZ : Nat → Nat → Bool} {r : Nat} (q : hr h mL mZ r) : ∀ i, i < 64 → bs_in (h 1) i = (decide (i < 20) && mZ 12 (20 * r + i)) := q.2.1
theorem hr.ch {h : Nat → Int64} {mL : Nat → Nat → Int64} {mZ : Nat → Nat → Bool} {r : Nat} (q : hr h mL mZ r) : ∀ i, i < 64 → bs_in (h 2) i = (decide (i < 60) && mZ 11 (60 * r + i)) := q.2.2.1
theorem hr.b {h : Nat → Int64} {mL : Nat → Nat → Int64} {mZ : Nat → Nat → Bool} {r : Nat} (q : hr h mL mZ r) : h 3 = mL 13 r := q.2.2.2
def tr_ok (fI : Nat → Nat → Int32) (fL : Nat → Nat → Int64) (mI : Nat → Nat → Int32) (mL : Nat → Nat → Int64) (i : Nat) : Prop := fI 0 i = mI 2 i ∧ fI 1 i = mI 3 i ∧ fI 2 i = mI 4 i ∧ fI 3 i = mI 5 i ∧ fL 0 i = (mI 6 i).toInt64 ∧ fL 1 i = mL 7 i ∧ fL 2 i = (mI 8 i).toInt64
def tr_un (fI : Nat → Nat → Int32) (fL : Nat → Nat → Int64) (n : Nat) : Prop := ∀ i j, i < n → j < n → tl_sk fI i j = true → fL 0 i = fL 0 j → fL 1 i = fL 1 j → i = j
section RL
variable {fI : Nat → Nat → Int32} {fL : Nat → Nat → Int64} {mI : Nat → Nat → Int32} {mL : Nat → Nat → Int64} {mZ : Nat → Nat → Bool} {n r : Nat} {h : Nat → Int64}
theorem rl_sk (ht : ∀ i, i < n → tr_ok fI fL mI mL i) {i j : Nat} (hi : i < n) (hj : j < n) : tl_sk fI i j = mo_sk mI i j := by
  obtain ⟨a0, a1, a2, a3, _⟩ := ht i hi
  obtain ⟨b0, b1, b2, b3, _⟩ := ht j hj
  simp only [tl_sk, mo_sk, a0, a1, a2, a3, b0, b1, b2, b3]
theorem tl_sk_c (i j : Nat) : tl_sk fI i j = tl_sk fI j i := by
  simp only [tl_sk, eq_comm]
theorem tl_sk_r (i : Nat) : tl_sk fI i i = true := by simp [tl_sk]
theorem tl_sk_t {i j k : Nat} (h1 : tl_sk fI i j = true) (h2 : tl_sk fI j k = true) : tl_sk fI i k = true := by
  simp only [tl_sk, Bool.and_eq_true, decide_eq_true_eq] at h1 h2 ⊢
  obtain ⟨⟨⟨a, b⟩, c⟩, d⟩ := h1
  obtain ⟨⟨⟨a', b'⟩, c'⟩, d'⟩ := h2
  exact ⟨⟨⟨a.trans a', b.trans b'⟩, c.trans c'⟩, d.trans d'⟩
theorem rl_live (hn : n ≤ 60) (ht : ∀ i, i < n → tr_ok fI fL mI mL i) (hh : hr h mL mZ r) {i : Nat} (hi : i < n) : bs_in (xl_live fL n h) i = mo_he mI mL mZ r i := by
  obtain ⟨_, _, _, _, a4, _⟩ := ht i hi
  rw [xl_live, tl_nb, bs_in_m (by omega) (by omega)]
  simp [tl_pN, mo_he, hh.t i (by omega), hh.b, hi, a4, show i < 60 by omega]
theorem rl_liveo (hn : n ≤ 60) {i : Nat} (hi : n ≤ i) (h6 : i < 64) : bs_in (xl_live fL n h) i = false := by
  rw [xl_live, tl_nb, bs_in_m (by omega) h6]
  simp [show ¬ i < n by omega]
theorem rl_key (hn : n ≤ 60) {lv : Int64} {t i : Nat} (h6 : i < 64) : bs_in (tl_key fI n t lv) i = (decide (i < n) && (bs_in lv i && tl_sk fI i t)) := by
  rw [tl_key, bs_in_m (by omega) h6]; rfl
theorem rl_alone (hn : n ≤ 60) {lv : Int64} {i : Nat} (hi : i < n) (hl : bs_in lv i = true) : tl_key fI n i lv = bs_b i ↔ ∀ j, j < n → j ≠ i → (bs_in lv j && tl_sk fI j i) = false := by
  constructor
  · intro e j hj hne
    have q := rl_key (fI := fI) (n := n) hn (lv := lv) (t := i) (i := j) (by omega)
    rw [e, bs_in_b (by omega) (by omega)] at q
    simp only [hne, hj, decide_true, decide_false, Bool.true_and] at q
    exact q.symm
  · intro e
    apply bs_ext
    intro k hk
    rw [rl_key hn hk, bs_in_b (by omega) hk]
    by_cases h1 : k = i
    · subst h1; simp [hi, hl, tl_sk_r]
    · by_cases h2 : k < n
      · rw [e k h2 h1]; simp [h1]
      · simp [h1, h2]
theorem rl_none (hn : n ≤ 60) {lv ch : Int64} {i : Nat} : tl_key fI n i lv &&& ch = 0 ↔ ∀ j, j < n → (bs_in lv j && tl_sk fI j i && bs_in ch j) = false := by
  constructor
  · intro e j hj
    have q := bs_in_and (x := tl_key fI n i lv) (y := ch) (k := j) (by omega)
    rw [e, bs_in_0 j (by omega), rl_key hn (by omega)] at q
    simpa [hj] using q.symm
  · intro e
    apply bs_ext
    intro k hk
    rw [bs_in_and hk, rl_key hn hk, bs_in_0 k hk]
    by_cases h2 : k < n
    · have := e k h2
      simpa [h2] using this
    · simp [h2]
theorem tl_usr_in (hn : n ≤ 60) {lv : Int64} (k : Nat) (hk : k ≤ n) : ∀ i, i < n → (bs_in (tl_usr fI n lv k) i = true ↔ (bs_in lv i = true ∧ ∀ j, j < k → (bs_in lv j && tl_sk fI j i) = false)) := by
  induction k with
  | zero => intro i hi; simp [tl_usr]
  | succ k ih =>
    intro i hi
    have ihk := ih (by omega)
    simp only [tl_usr]
    by_cases hb : bs_in (tl_usr fI n lv k) k = true
    · rw [if_pos hb, bs_in_and (by omega), bs_in_not (by omega), rl_key hn (by omega)]
      have hlk := ((ihk k (by omega)).mp hb).1
      simp only [hi, decide_true, Bool.true_and, Bool.and_eq_true, ihk i hi, Bool.not_eq_true']
      constructor
      · rintro ⟨⟨h1, h2⟩, h3⟩
        refine ⟨h1, fun j hj => ?_⟩
        by_cases e : j = k
        · subst e
          rw [h1, Bool.true_and, tl_sk_c] at h3
          rw [h3]; simp
        · exact h2 j (by omega)
      · rintro ⟨h1, h2⟩
        refine ⟨⟨h1, fun j hj => h2 j (by omega)⟩, ?_⟩
        have := h2 k (by omega)
        rw [hlk, Bool.true_and, tl_sk_c] at this
        rw [this]; simp
    · rw [if_neg hb, ihk i hi]
      constructor
      · rintro ⟨h1, h2⟩
        refine ⟨h1, fun j hj => ?_⟩
        by_cases e : j = k
        · subst e
          cases hlk : bs_in lv j with
          | false => simp
          | true =>
            cases hs : tl_sk fI j i with
            | false => simp
            | true =>
              exfalso
              apply hb
              rw [ihk j (by omega)]
              refine ⟨hlk, fun x hx => ?_⟩
              cases hx2 : (bs_in lv x && tl_sk fI x j) with
              | false => rfl
              | true =>
                rw [Bool.and_eq_true] at hx2
                have := h2 x hx
                rw [hx2.1, tl_sk_t hx2.2 hs] at this
                cases this
        · exact h2 j (by omega)
      · rintro ⟨h1, h2⟩
        exact ⟨h1, fun j hj => h2 j (by omega)⟩
theorem cf_un_e {z i : Nat} (k : Nat) : cf_un mI mL mZ z i k = nn_any (mo_so mI mL mZ z i) k := by
  induction k with
  | zero => rfl
  | succ k ih => simp only [cf_un, nn_any, ih]; by_cases q : mo_so mI mL mZ z i k = true <;> simp [q]
theorem cf_st_e {z i : Nat} (k : Nat) : cf_st mI mL mZ z i k = (mo_cs mI mL mZ z i || nn_any (mo_cc mI mL mZ z i) k) := by
  induction k with
  | zero => simp [cf_st, nn_any]
  | succ k ih => simp only [cf_st, nn_any, ih, mo_cc]; by_cases q : mo_so mI mL mZ z i k = true <;> simp [q, Bool.or_assoc]
theorem se_al_e {z i : Nat} (k : Nat) : se_al mI mL mZ z i k = !nn_any (mo_so mI mL mZ z i) k := by
  induction k with
  | zero => rfl
  | succ k ih => simp only [se_al, nn_any, ih]; by_cases q : mo_so mI mL mZ z i k = true <;> simp [q]
theorem se_fi_e {z i : Nat} (k : Nat) : se_fi mI mL mZ z i k = (mo_cs mI mL mZ z i && !nn_any (mo_sp mI mL mZ z i) k) := by
  induction k with
  | zero => simp [se_fi, nn_any]
  | succ k ih => simp only [se_fi, nn_any, ih, mo_sp]; by_cases q : mo_so mI mL mZ z i k = true <;> simp [q, Bool.and_assoc]
theorem rl_cf (hn : n ≤ 60) (ht : ∀ i, i < n → tr_ok fI fL mI mL i) (hh : hr h mL mZ r) {i : Nat} (hi : i < n) : tl_pU fI n (xl_live fL n h) (h 2) i = mo_cf mI mL mZ n r i := by
  rw [Bool.eq_iff_iff]
  have L : ∀ j, j < n → bs_in (xl_live fL n h) j = mo_he mI mL mZ r j := fun j hj => rl_live hn ht hh hj
  have K : ∀ j, j < n → tl_sk fI j i = mo_sk mI i j := fun j hj => by rw [tl_sk_c]; exact rl_sk ht hi hj
  have C : ∀ j, j < n → bs_in (h 2) j = mZ 11 (60 * r + j) := fun j hj => by rw [hh.ch j (by omega)]; simp [show j < 60 by omega]
  simp only [tl_pU, mo_cf, Bool.and_eq_true, Bool.not_eq_true', cf_un_e, cf_st_e, decide_eq_true_eq, decide_eq_false_iff_not, Bool.or_eq_false_iff]
  rw [tl_usr_in hn i (by omega) i hi, rl_none hn]
  constructor
  · rintro ⟨⟨⟨h1, h2⟩, h3⟩, h4⟩
    have hhe : mo_he mI mL mZ r i = true := by rw [← L i hi]; exact h1
    rw [rl_alone hn hi h1] at h3
    refine ⟨hhe, ?_, ?_, ?_, ?_⟩
    · rw [nn_any_no]
      intro j hj
      by_cases q : j < i
      · have := h2 j q
        rw [L j hj, K j hj] at this
        simp only [mo_ce, mo_so, q, decide_true, Bool.true_and, show ¬ j = i by omega, decide_false, Bool.not_false]
        rw [Bool.and_comm]; exact this
      · simp [mo_ce, q]
    · rw [nn_any_iff]
      apply Classical.byContradiction
      intro hc
      apply h3
      intro j hj hne
      cases q : (bs_in (xl_live fL n h) j && tl_sk fI j i) with
      | false => rfl
      | true =>
        exfalso; apply hc
        rw [L j hj, K j hj, Bool.and_eq_true] at q
        exact ⟨j, hj, by simp [mo_so, hne, q.1, q.2]⟩
    · have := h4 i hi
      rw [h1, tl_sk_r, C i hi] at this
      simp only [Bool.true_and] at this
      simp [mo_cs, this]
    · rw [nn_any_no]
      intro j hj
      have := h4 j hj
      rw [L j hj, K j hj, C j hj] at this
      simp only [mo_cc, mo_so, mo_cs]
      cases a : mo_he mI mL mZ r j <;> cases b : mo_sk mI i j <;> cases c : mZ 11 (60 * r + j) <;> simp [a, b, c] at this ⊢
  · rintro ⟨h1, h2, h3, h4, h5⟩
    have hli : bs_in (xl_live fL n h) i = true := by rw [L i hi]; exact h1
    rw [nn_any_no] at h2 h5
    rw [nn_any_iff] at h3
    refine ⟨⟨⟨hli, ?_⟩, ?_⟩, ?_⟩
    · intro j hj
      have := h2 j (by omega)
      rw [L j (by omega), K j (by omega)]
      simp only [mo_ce, mo_so, hj, decide_true, Bool.true_and, show ¬ j = i by omega, decide_false, Bool.not_false] at this
      rw [Bool.and_comm]; exact this
    · rw [rl_alone hn hi hli]
      intro q
      obtain ⟨j, hj, hs⟩ := h3
      simp only [mo_so, Bool.and_eq_true, Bool.not_eq_true', decide_eq_false_iff_not] at hs
      have := q j hj hs.1.1
      rw [L j hj, K j hj, hs.1.2, hs.2] at this
      cases this
    · intro j hj
      rw [L j hj, K j hj, C j hj]
      by_cases e : j = i
      · subst e
        simp only [mo_cs, h1, Bool.true_and] at h4
        simp [h4]
      · have := h5 j hj
        simp only [mo_cc, mo_so, mo_cs, e, decide_false, Bool.not_false, Bool.true_and] at this
        cases a : mo_he mI mL mZ r j <;> cases b : mo_sk mI i j <;> cases c : mZ 11 (60 * r + j) <;> simp [a, b, c] at this ⊢
theorem rl_conf (hn : n ≤ 60) (ht : ∀ i, i < n → tr_ok fI fL mI mL i) (hh : hr h mL mZ r) : xl_conf fI fL n h = bs_m (mo_cf mI mL mZ n r) n := by
  rw [xl_conf, tl_us]
  exact bs_m_ext (fun i hi => rl_cf hn ht hh hi)
theorem rl_count (hn : n ≤ 60) (ht : ∀ i, i < n → tr_ok fI fL mI mL i) (hh : hr h mL mZ r) : lb_pc (xl_conf fI fL n h) = nI (mo_cn mI mL mZ n r) := by
  rw [rl_conf hn ht hh, lb_m (by omega)]; rfl
end RL
